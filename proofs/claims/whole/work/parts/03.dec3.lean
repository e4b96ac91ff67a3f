theorem dX12_errorCode_0 : decode cX12_errorCode 0 = .ok (.aload_n 0, 1) := by decide +kernel
theorem dX12_errorCode_1 : decode cX12_errorCode 1 = .ok (.getfield 32, 3) := by decide +kernel
theorem dX12_errorCode_4 : decode cX12_errorCode 4 = .ok (.getfield 110, 3) := by decide +kernel
theorem dX12_errorCode_7 : decode cX12_errorCode 7 = .ok (.ireturn, 1) := by decide +kernel
theorem dX12_errorOffset_0 : decode cX12_errorOffset 0 = .ok (.aload_n 0, 1) := by decide +kernel
theorem dX12_errorOffset_1 : decode cX12_errorOffset 1 = .ok (.getfield 32, 3) := by decide +kernel
theorem dX12_errorOffset_4 : decode cX12_errorOffset 4 = .ok (.getfield 113, 3) := by decide +kernel
theorem dX12_errorOffset_7 : decode cX12_errorOffset 7 = .ok (.ireturn, 1) := by decide +kernel
theorem dX12_crateCount_0 : decode cX12_crateCount 0 = .ok (.aload_n 0, 1) := by decide +kernel
theorem dX12_crateCount_1 : decode cX12_crateCount 1 = .ok (.getfield 10, 3) := by decide +kernel
theorem dX12_crateCount_4 : decode cX12_crateCount 4 = .ok (.getfield 96, 3) := by decide +kernel
theorem dX12_crateCount_7 : decode cX12_crateCount 7 = .ok (.ireturn, 1) := by decide +kernel
theorem dX12_buyerCount_0 : decode cX12_buyerCount 0 = .ok (.aload_n 0, 1) := by decide +kernel
theorem dX12_buyerCount_1 : decode cX12_buyerCount 1 = .ok (.getfield 10, 3) := by decide +kernel
theorem dX12_buyerCount_4 : decode cX12_buyerCount 4 = .ok (.getfield 116, 3) := by decide +kernel
theorem dX12_buyerCount_7 : decode cX12_buyerCount 7 = .ok (.ireturn, 1) := by decide +kernel
theorem dX12_crateNameByte_0 : decode cX12_crateNameByte 0 = .ok (.aload_n 0, 1) := by decide +kernel
theorem dX12_crateNameByte_1 : decode cX12_crateNameByte 1 = .ok (.iload_n 1, 1) := by decide +kernel
theorem dX12_crateNameByte_2 : decode cX12_crateNameByte 2 = .ok (.invokevirtual 119, 3) := by decide +kernel
theorem dX12_crateNameByte_5 : decode cX12_crateNameByte 5 = .ok (.getfield 123, 3) := by decide +kernel
theorem dX12_crateNameByte_8 : decode cX12_crateNameByte 8 = .ok (.iload_n 2, 1) := by decide +kernel
theorem dX12_crateNameByte_9 : decode cX12_crateNameByte 9 = .ok (.invokestatic 126, 3) := by decide +kernel
theorem dX12_crateNameByte_12 : decode cX12_crateNameByte 12 = .ok (.ireturn, 1) := by decide +kernel
theorem dX12_buyerNameByte_0 : decode cX12_buyerNameByte 0 = .ok (.aload_n 0, 1) := by decide +kernel
theorem dX12_buyerNameByte_1 : decode cX12_buyerNameByte 1 = .ok (.iload_n 1, 1) := by decide +kernel
theorem dX12_buyerNameByte_2 : decode cX12_buyerNameByte 2 = .ok (.invokevirtual 130, 3) := by decide +kernel
theorem dX12_buyerNameByte_5 : decode cX12_buyerNameByte 5 = .ok (.getfield 134, 3) := by decide +kernel
theorem dX12_buyerNameByte_8 : decode cX12_buyerNameByte 8 = .ok (.iload_n 2, 1) := by decide +kernel
theorem dX12_buyerNameByte_9 : decode cX12_buyerNameByte 9 = .ok (.invokestatic 126, 3) := by decide +kernel
theorem dX12_buyerNameByte_12 : decode cX12_buyerNameByte 12 = .ok (.ireturn, 1) := by decide +kernel
theorem dX12_tareOf_0 : decode cX12_tareOf 0 = .ok (.aload_n 0, 1) := by decide +kernel
theorem dX12_tareOf_1 : decode cX12_tareOf 1 = .ok (.iload_n 1, 1) := by decide +kernel
theorem dX12_tareOf_2 : decode cX12_tareOf 2 = .ok (.invokevirtual 119, 3) := by decide +kernel
theorem dX12_tareOf_5 : decode cX12_tareOf 5 = .ok (.getfield 137, 3) := by decide +kernel
theorem dX12_tareOf_8 : decode cX12_tareOf 8 = .ok (.ireturn, 1) := by decide +kernel
theorem dX12_goodsOf_0 : decode cX12_goodsOf 0 = .ok (.aload_n 0, 1) := by decide +kernel
theorem dX12_goodsOf_1 : decode cX12_goodsOf 1 = .ok (.iload_n 1, 1) := by decide +kernel
theorem dX12_goodsOf_2 : decode cX12_goodsOf 2 = .ok (.invokevirtual 119, 3) := by decide +kernel
theorem dX12_goodsOf_5 : decode cX12_goodsOf 5 = .ok (.getfield 140, 3) := by decide +kernel
theorem dX12_goodsOf_8 : decode cX12_goodsOf 8 = .ok (.ireturn, 1) := by decide +kernel
theorem dX12_grossOf_0 : decode cX12_grossOf 0 = .ok (.aload_n 0, 1) := by decide +kernel
theorem dX12_grossOf_1 : decode cX12_grossOf 1 = .ok (.iload_n 1, 1) := by decide +kernel
theorem dX12_grossOf_2 : decode cX12_grossOf 2 = .ok (.invokevirtual 119, 3) := by decide +kernel
theorem dX12_grossOf_5 : decode cX12_grossOf 5 = .ok (.getfield 143, 3) := by decide +kernel
theorem dX12_grossOf_8 : decode cX12_grossOf 8 = .ok (.ireturn, 1) := by decide +kernel
theorem dX12_parentOf_0 : decode cX12_parentOf 0 = .ok (.aload_n 0, 1) := by decide +kernel
theorem dX12_parentOf_1 : decode cX12_parentOf 1 = .ok (.iload_n 1, 1) := by decide +kernel
theorem dX12_parentOf_2 : decode cX12_parentOf 2 = .ok (.invokevirtual 119, 3) := by decide +kernel
theorem dX12_parentOf_5 : decode cX12_parentOf 5 = .ok (.invokevirtual 146, 3) := by decide +kernel
theorem dX12_parentOf_8 : decode cX12_parentOf 8 = .ok (.ireturn, 1) := by decide +kernel
theorem dX12_depthOf_0 : decode cX12_depthOf 0 = .ok (.aload_n 0, 1) := by decide +kernel
theorem dX12_depthOf_1 : decode cX12_depthOf 1 = .ok (.iload_n 1, 1) := by decide +kernel
theorem dX12_depthOf_2 : decode cX12_depthOf 2 = .ok (.invokevirtual 119, 3) := by decide +kernel
theorem dX12_depthOf_5 : decode cX12_depthOf 5 = .ok (.invokevirtual 149, 3) := by decide +kernel
theorem dX12_depthOf_8 : decode cX12_depthOf 8 = .ok (.ireturn, 1) := by decide +kernel
theorem dX12_childCount_0 : decode cX12_childCount 0 = .ok (.aload_n 0, 1) := by decide +kernel
theorem dX12_childCount_1 : decode cX12_childCount 1 = .ok (.iload_n 1, 1) := by decide +kernel
theorem dX12_childCount_2 : decode cX12_childCount 2 = .ok (.invokevirtual 119, 3) := by decide +kernel
theorem dX12_childCount_5 : decode cX12_childCount 5 = .ok (.astore_n 2, 1) := by decide +kernel
theorem dX12_childCount_6 : decode cX12_childCount 6 = .ok (.iconst 0, 1) := by decide +kernel
theorem dX12_childCount_7 : decode cX12_childCount 7 = .ok (.istore_n 3, 1) := by decide +kernel
theorem dX12_childCount_8 : decode cX12_childCount 8 = .ok (.aload_n 0, 1) := by decide +kernel
theorem dX12_childCount_9 : decode cX12_childCount 9 = .ok (.getfield 10, 3) := by decide +kernel
theorem dX12_childCount_12 : decode cX12_childCount 12 = .ok (.aload_n 2, 1) := by decide +kernel
theorem dX12_childCount_13 : decode cX12_childCount 13 = .ok (.invokevirtual 152, 3) := by decide +kernel
theorem dX12_childCount_16 : decode cX12_childCount 16 = .ok (.astore 4, 2) := by decide +kernel
theorem dX12_childCount_18 : decode cX12_childCount 18 = .ok (.aload 4, 2) := by decide +kernel
theorem dX12_childCount_20 : decode cX12_childCount 20 = .ok (.ifnull 20, 3) := by decide +kernel
theorem dX12_childCount_23 : decode cX12_childCount 23 = .ok (.iinc 3 1, 3) := by decide +kernel
theorem dX12_childCount_26 : decode cX12_childCount 26 = .ok (.aload_n 0, 1) := by decide +kernel
theorem dX12_childCount_27 : decode cX12_childCount 27 = .ok (.getfield 10, 3) := by decide +kernel
theorem dX12_childCount_30 : decode cX12_childCount 30 = .ok (.aload 4, 2) := by decide +kernel
theorem dX12_childCount_32 : decode cX12_childCount 32 = .ok (.invokevirtual 156, 3) := by decide +kernel
theorem dX12_childCount_35 : decode cX12_childCount 35 = .ok (.astore 4, 2) := by decide +kernel
theorem dX12_childCount_37 : decode cX12_childCount 37 = .ok (.goto (-19), 3) := by decide +kernel
theorem dX12_childCount_40 : decode cX12_childCount 40 = .ok (.iload_n 3, 1) := by decide +kernel
theorem dX12_childCount_41 : decode cX12_childCount 41 = .ok (.ireturn, 1) := by decide +kernel
theorem dX12_childOf_0 : decode cX12_childOf 0 = .ok (.aload_n 0, 1) := by decide +kernel
theorem dX12_childOf_1 : decode cX12_childOf 1 = .ok (.iload_n 1, 1) := by decide +kernel
theorem dX12_childOf_2 : decode cX12_childOf 2 = .ok (.invokevirtual 119, 3) := by decide +kernel
theorem dX12_childOf_5 : decode cX12_childOf 5 = .ok (.astore_n 3, 1) := by decide +kernel
theorem dX12_childOf_6 : decode cX12_childOf 6 = .ok (.iconst 0, 1) := by decide +kernel
theorem dX12_childOf_7 : decode cX12_childOf 7 = .ok (.istore 4, 2) := by decide +kernel
theorem dX12_childOf_9 : decode cX12_childOf 9 = .ok (.aload_n 0, 1) := by decide +kernel
theorem dX12_childOf_10 : decode cX12_childOf 10 = .ok (.getfield 10, 3) := by decide +kernel
theorem dX12_childOf_13 : decode cX12_childOf 13 = .ok (.aload_n 3, 1) := by decide +kernel
theorem dX12_childOf_14 : decode cX12_childOf 14 = .ok (.invokevirtual 152, 3) := by decide +kernel
theorem dX12_childOf_17 : decode cX12_childOf 17 = .ok (.astore 5, 2) := by decide +kernel
theorem dX12_childOf_19 : decode cX12_childOf 19 = .ok (.aload 5, 2) := by decide +kernel
theorem dX12_childOf_21 : decode cX12_childOf 21 = .ok (.ifnull 32, 3) := by decide +kernel
theorem dX12_childOf_24 : decode cX12_childOf 24 = .ok (.iload 4, 2) := by decide +kernel
theorem dX12_childOf_26 : decode cX12_childOf 26 = .ok (.iload_n 2, 1) := by decide +kernel
theorem dX12_childOf_27 : decode cX12_childOf 27 = .ok (.if_icmp .ne 9, 3) := by decide +kernel
theorem dX12_childOf_30 : decode cX12_childOf 30 = .ok (.aload 5, 2) := by decide +kernel
theorem dX12_childOf_32 : decode cX12_childOf 32 = .ok (.getfield 159, 3) := by decide +kernel
theorem dX12_childOf_35 : decode cX12_childOf 35 = .ok (.ireturn, 1) := by decide +kernel
theorem dX12_childOf_36 : decode cX12_childOf 36 = .ok (.iinc 4 1, 3) := by decide +kernel
theorem dX12_childOf_39 : decode cX12_childOf 39 = .ok (.aload_n 0, 1) := by decide +kernel
theorem dX12_childOf_40 : decode cX12_childOf 40 = .ok (.getfield 10, 3) := by decide +kernel
theorem dX12_childOf_43 : decode cX12_childOf 43 = .ok (.aload 5, 2) := by decide +kernel
theorem dX12_childOf_45 : decode cX12_childOf 45 = .ok (.invokevirtual 156, 3) := by decide +kernel
theorem dX12_childOf_48 : decode cX12_childOf 48 = .ok (.astore 5, 2) := by decide +kernel
theorem dX12_childOf_50 : decode cX12_childOf 50 = .ok (.goto (-31), 3) := by decide +kernel
theorem dX12_childOf_53 : decode cX12_childOf 53 = .ok (.iconst (-1), 1) := by decide +kernel
theorem dX12_childOf_54 : decode cX12_childOf 54 = .ok (.ireturn, 1) := by decide +kernel
theorem dX12_isInYard_0 : decode cX12_isInYard 0 = .ok (.aload_n 0, 1) := by decide +kernel
theorem dX12_isInYard_1 : decode cX12_isInYard 1 = .ok (.iload_n 1, 1) := by decide +kernel
theorem dX12_isInYard_2 : decode cX12_isInYard 2 = .ok (.invokevirtual 119, 3) := by decide +kernel
theorem dX12_isInYard_5 : decode cX12_isInYard 5 = .ok (.getfield 162, 3) := by decide +kernel
theorem dX12_isInYard_8 : decode cX12_isInYard 8 = .ok (.ireturn, 1) := by decide +kernel
theorem dX12_readingCount_0 : decode cX12_readingCount 0 = .ok (.aload_n 0, 1) := by decide +kernel
theorem dX12_readingCount_1 : decode cX12_readingCount 1 = .ok (.iload_n 1, 1) := by decide +kernel
theorem dX12_readingCount_2 : decode cX12_readingCount 2 = .ok (.invokevirtual 119, 3) := by decide +kernel
theorem dX12_readingCount_5 : decode cX12_readingCount 5 = .ok (.getfield 166, 3) := by decide +kernel
theorem dX12_readingCount_8 : decode cX12_readingCount 8 = .ok (.ireturn, 1) := by decide +kernel
theorem dX12_lastReading_0 : decode cX12_lastReading 0 = .ok (.aload_n 0, 1) := by decide +kernel
theorem dX12_lastReading_1 : decode cX12_lastReading 1 = .ok (.iload_n 1, 1) := by decide +kernel
theorem dX12_lastReading_2 : decode cX12_lastReading 2 = .ok (.invokevirtual 169, 3) := by decide +kernel
theorem dX12_lastReading_5 : decode cX12_lastReading 5 = .ok (.getfield 172, 3) := by decide +kernel
theorem dX12_lastReading_8 : decode cX12_lastReading 8 = .ok (.ireturn, 1) := by decide +kernel
theorem dX12_meanReading_0 : decode cX12_meanReading 0 = .ok (.aload_n 0, 1) := by decide +kernel
theorem dX12_meanReading_1 : decode cX12_meanReading 1 = .ok (.iload_n 1, 1) := by decide +kernel
theorem dX12_meanReading_2 : decode cX12_meanReading 2 = .ok (.invokevirtual 169, 3) := by decide +kernel
theorem dX12_meanReading_5 : decode cX12_meanReading 5 = .ok (.invokevirtual 175, 3) := by decide +kernel
theorem dX12_meanReading_8 : decode cX12_meanReading 8 = .ok (.ireturn, 1) := by decide +kernel
theorem dX12_meanError_0 : decode cX12_meanError 0 = .ok (.aload_n 0, 1) := by decide +kernel
theorem dX12_meanError_1 : decode cX12_meanError 1 = .ok (.iload_n 1, 1) := by decide +kernel
theorem dX12_meanError_2 : decode cX12_meanError 2 = .ok (.invokevirtual 169, 3) := by decide +kernel
theorem dX12_meanError_5 : decode cX12_meanError 5 = .ok (.invokevirtual 178, 3) := by decide +kernel
theorem dX12_meanError_8 : decode cX12_meanError 8 = .ok (.ireturn, 1) := by decide +kernel
theorem dX12_exactMean_0 : decode cX12_exactMean 0 = .ok (.aload_n 0, 1) := by decide +kernel
theorem dX12_exactMean_1 : decode cX12_exactMean 1 = .ok (.iload_n 1, 1) := by decide +kernel
theorem dX12_exactMean_2 : decode cX12_exactMean 2 = .ok (.invokevirtual 169, 3) := by decide +kernel
theorem dX12_exactMean_5 : decode cX12_exactMean 5 = .ok (.astore_n 2, 1) := by decide +kernel
theorem dX12_exactMean_6 : decode cX12_exactMean 6 = .ok (.aload_n 2, 1) := by decide +kernel
theorem dX12_exactMean_7 : decode cX12_exactMean 7 = .ok (.getfield 181, 3) := by decide +kernel
theorem dX12_exactMean_10 : decode cX12_exactMean 10 = .ok (.l2d, 1) := by decide +kernel
theorem dX12_exactMean_11 : decode cX12_exactMean 11 = .ok (.aload_n 2, 1) := by decide +kernel
theorem dX12_exactMean_12 : decode cX12_exactMean 12 = .ok (.getfield 166, 3) := by decide +kernel
theorem dX12_exactMean_15 : decode cX12_exactMean 15 = .ok (.i2d, 1) := by decide +kernel
theorem dX12_exactMean_16 : decode cX12_exactMean 16 = .ok (.ddiv, 1) := by decide +kernel
theorem dX12_exactMean_17 : decode cX12_exactMean 17 = .ok (.dreturn, 1) := by decide +kernel
theorem dX12_springAge_0 : decode cX12_springAge 0 = .ok (.aload_n 0, 1) := by decide +kernel
theorem dX12_springAge_1 : decode cX12_springAge 1 = .ok (.getfield 10, 3) := by decide +kernel
theorem dX12_springAge_4 : decode cX12_springAge 4 = .ok (.getfield 185, 3) := by decide +kernel
theorem dX12_springAge_7 : decode cX12_springAge 7 = .ok (.getfield 188, 3) := by decide +kernel
theorem dX12_springAge_10 : decode cX12_springAge 10 = .ok (.ireturn, 1) := by decide +kernel
theorem dX12_springSag_0 : decode cX12_springSag 0 = .ok (.aload_n 0, 1) := by decide +kernel
theorem dX12_springSag_1 : decode cX12_springSag 1 = .ok (.getfield 10, 3) := by decide +kernel
theorem dX12_springSag_4 : decode cX12_springSag 4 = .ok (.getfield 185, 3) := by decide +kernel
theorem dX12_springSag_7 : decode cX12_springSag 7 = .ok (.invokevirtual 191, 3) := by decide +kernel
theorem dX12_springSag_10 : decode cX12_springSag 10 = .ok (.ireturn, 1) := by decide +kernel
theorem dX12_amplitude_0 : decode cX12_amplitude 0 = .ok (.aload_n 0, 1) := by decide +kernel
theorem dX12_amplitude_1 : decode cX12_amplitude 1 = .ok (.getfield 10, 3) := by decide +kernel
theorem dX12_amplitude_4 : decode cX12_amplitude 4 = .ok (.getfield 185, 3) := by decide +kernel
theorem dX12_amplitude_7 : decode cX12_amplitude 7 = .ok (.getfield 194, 3) := by decide +kernel
theorem dX12_amplitude_10 : decode cX12_amplitude 10 = .ok (.ireturn, 1) := by decide +kernel
theorem dX12_aging_0 : decode cX12_aging 0 = .ok (.aload_n 0, 1) := by decide +kernel
theorem dX12_aging_1 : decode cX12_aging 1 = .ok (.getfield 10, 3) := by decide +kernel
theorem dX12_aging_4 : decode cX12_aging 4 = .ok (.getfield 185, 3) := by decide +kernel
theorem dX12_aging_7 : decode cX12_aging 7 = .ok (.getfield 197, 3) := by decide +kernel
theorem dX12_aging_10 : decode cX12_aging 10 = .ok (.ireturn, 1) := by decide +kernel
theorem dX12_requiredReadings_0 : decode cX12_requiredReadings 0 = .ok (.aload_n 0, 1) := by decide +kernel
theorem dX12_requiredReadings_1 : decode cX12_requiredReadings 1 = .ok (.getfield 10, 3) := by decide +kernel
theorem dX12_requiredReadings_4 : decode cX12_requiredReadings 4 = .ok (.getfield 200, 3) := by decide +kernel
theorem dX12_requiredReadings_7 : decode cX12_requiredReadings 7 = .ok (.ireturn, 1) := by decide +kernel
theorem dX12_requiredTrust_0 : decode cX12_requiredTrust 0 = .ok (.aload_n 0, 1) := by decide +kernel
theorem dX12_requiredTrust_1 : decode cX12_requiredTrust 1 = .ok (.getfield 10, 3) := by decide +kernel
theorem dX12_requiredTrust_4 : decode cX12_requiredTrust 4 = .ok (.getfield 203, 3) := by decide +kernel
theorem dX12_requiredTrust_7 : decode cX12_requiredTrust 7 = .ok (.ireturn, 1) := by decide +kernel
theorem dX12_predictReading_0 : decode cX12_predictReading 0 = .ok (.aload_n 0, 1) := by decide +kernel
theorem dX12_predictReading_1 : decode cX12_predictReading 1 = .ok (.iload_n 1, 1) := by decide +kernel
theorem dX12_predictReading_2 : decode cX12_predictReading 2 = .ok (.invokevirtual 119, 3) := by decide +kernel
theorem dX12_predictReading_5 : decode cX12_predictReading 5 = .ok (.astore_n 2, 1) := by decide +kernel
theorem dX12_predictReading_6 : decode cX12_predictReading 6 = .ok (.aload_n 2, 1) := by decide +kernel
theorem dX12_predictReading_7 : decode cX12_predictReading 7 = .ok (.getfield 162, 3) := by decide +kernel
theorem dX12_predictReading_10 : decode cX12_predictReading 10 = .ok (.invokestatic 206, 3) := by decide +kernel
theorem dX12_predictReading_13 : decode cX12_predictReading 13 = .ok (.aload_n 0, 1) := by decide +kernel
theorem dX12_predictReading_14 : decode cX12_predictReading 14 = .ok (.aload_n 2, 1) := by decide +kernel
theorem dX12_predictReading_15 : decode cX12_predictReading 15 = .ok (.invokevirtual 210, 3) := by decide +kernel
theorem dX12_predictReading_18 : decode cX12_predictReading 18 = .ok (.aload_n 0, 1) := by decide +kernel
theorem dX12_predictReading_19 : decode cX12_predictReading 19 = .ok (.getfield 71, 3) := by decide +kernel
theorem dX12_predictReading_22 : decode cX12_predictReading 22 = .ok (.aload_n 0, 1) := by decide +kernel
theorem dX12_predictReading_23 : decode cX12_predictReading 23 = .ok (.getfield 64, 3) := by decide +kernel
theorem dX12_predictReading_26 : decode cX12_predictReading 26 = .ok (.invokevirtual 214, 3) := by decide +kernel
theorem dX12_predictReading_29 : decode cX12_predictReading 29 = .ok (.ireturn, 1) := by decide +kernel
theorem dX12_predictMean_0 : decode cX12_predictMean 0 = .ok (.aload_n 0, 1) := by decide +kernel
theorem dX12_predictMean_1 : decode cX12_predictMean 1 = .ok (.iload_n 1, 1) := by decide +kernel
theorem dX12_predictMean_2 : decode cX12_predictMean 2 = .ok (.invokevirtual 119, 3) := by decide +kernel
theorem dX12_predictMean_5 : decode cX12_predictMean 5 = .ok (.astore_n 3, 1) := by decide +kernel
theorem dX12_predictMean_6 : decode cX12_predictMean 6 = .ok (.iload_n 2, 1) := by decide +kernel
theorem dX12_predictMean_7 : decode cX12_predictMean 7 = .ok (.iconst 1, 1) := by decide +kernel
theorem dX12_predictMean_8 : decode cX12_predictMean 8 = .ok (.bipush 100, 2) := by decide +kernel
theorem dX12_predictMean_10 : decode cX12_predictMean 10 = .ok (.invokestatic 218, 3) := by decide +kernel
theorem dX12_predictMean_13 : decode cX12_predictMean 13 = .ok (.aload_n 3, 1) := by decide +kernel
theorem dX12_predictMean_14 : decode cX12_predictMean 14 = .ok (.getfield 162, 3) := by decide +kernel
theorem dX12_predictMean_17 : decode cX12_predictMean 17 = .ok (.invokestatic 206, 3) := by decide +kernel
theorem dX12_predictMean_20 : decode cX12_predictMean 20 = .ok (.aload_n 0, 1) := by decide +kernel
theorem dX12_predictMean_21 : decode cX12_predictMean 21 = .ok (.aload_n 3, 1) := by decide +kernel
theorem dX12_predictMean_22 : decode cX12_predictMean 22 = .ok (.invokevirtual 210, 3) := by decide +kernel
theorem dX12_predictMean_25 : decode cX12_predictMean 25 = .ok (.iconst 0, 1) := by decide +kernel
theorem dX12_predictMean_26 : decode cX12_predictMean 26 = .ok (.istore 4, 2) := by decide +kernel
theorem dX12_predictMean_28 : decode cX12_predictMean 28 = .ok (.iload 4, 2) := by decide +kernel
theorem dX12_predictMean_30 : decode cX12_predictMean 30 = .ok (.iload_n 2, 1) := by decide +kernel
theorem dX12_predictMean_31 : decode cX12_predictMean 31 = .ok (.if_icmp .ge 21, 3) := by decide +kernel
theorem dX12_predictMean_34 : decode cX12_predictMean 34 = .ok (.aload_n 0, 1) := by decide +kernel
theorem dX12_predictMean_35 : decode cX12_predictMean 35 = .ok (.getfield 71, 3) := by decide +kernel
theorem dX12_predictMean_38 : decode cX12_predictMean 38 = .ok (.aload_n 0, 1) := by decide +kernel
theorem dX12_predictMean_39 : decode cX12_predictMean 39 = .ok (.getfield 64, 3) := by decide +kernel
theorem dX12_predictMean_42 : decode cX12_predictMean 42 = .ok (.invokevirtual 214, 3) := by decide +kernel
theorem dX12_predictMean_45 : decode cX12_predictMean 45 = .ok (.pop, 1) := by decide +kernel
theorem dX12_predictMean_46 : decode cX12_predictMean 46 = .ok (.iinc 4 1, 3) := by decide +kernel
theorem dX12_predictMean_49 : decode cX12_predictMean 49 = .ok (.goto (-21), 3) := by decide +kernel
theorem dX12_predictMean_52 : decode cX12_predictMean 52 = .ok (.aload_n 0, 1) := by decide +kernel
theorem dX12_predictMean_53 : decode cX12_predictMean 53 = .ok (.getfield 64, 3) := by decide +kernel
theorem dX12_predictMean_56 : decode cX12_predictMean 56 = .ok (.invokevirtual 175, 3) := by decide +kernel
theorem dX12_predictMean_59 : decode cX12_predictMean 59 = .ok (.ireturn, 1) := by decide +kernel
theorem dX12_readingsUntilWithin_0 : decode cX12_readingsUntilWithin 0 = .ok (.aload_n 0, 1) := by decide +kernel
theorem dX12_readingsUntilWithin_1 : decode cX12_readingsUntilWithin 1 = .ok (.iload_n 1, 1) := by decide +kernel
theorem dX12_readingsUntilWithin_2 : decode cX12_readingsUntilWithin 2 = .ok (.invokevirtual 119, 3) := by decide +kernel
theorem dX12_readingsUntilWithin_5 : decode cX12_readingsUntilWithin 5 = .ok (.astore_n 3, 1) := by decide +kernel
theorem dX12_readingsUntilWithin_6 : decode cX12_readingsUntilWithin 6 = .ok (.iload_n 2, 1) := by decide +kernel
theorem dX12_readingsUntilWithin_7 : decode cX12_readingsUntilWithin 7 = .ok (.iconst 0, 1) := by decide +kernel
theorem dX12_readingsUntilWithin_8 : decode cX12_readingsUntilWithin 8 = .ok (.bipush 50, 2) := by decide +kernel
theorem dX12_readingsUntilWithin_10 : decode cX12_readingsUntilWithin 10 = .ok (.invokestatic 218, 3) := by decide +kernel
theorem dX12_readingsUntilWithin_13 : decode cX12_readingsUntilWithin 13 = .ok (.aload_n 3, 1) := by decide +kernel
theorem dX12_readingsUntilWithin_14 : decode cX12_readingsUntilWithin 14 = .ok (.getfield 162, 3) := by decide +kernel
theorem dX12_readingsUntilWithin_17 : decode cX12_readingsUntilWithin 17 = .ok (.invokestatic 206, 3) := by decide +kernel
theorem dX12_readingsUntilWithin_20 : decode cX12_readingsUntilWithin 20 = .ok (.aload_n 0, 1) := by decide +kernel
theorem dX12_readingsUntilWithin_21 : decode cX12_readingsUntilWithin 21 = .ok (.aload_n 3, 1) := by decide +kernel
theorem dX12_readingsUntilWithin_22 : decode cX12_readingsUntilWithin 22 = .ok (.invokevirtual 210, 3) := by decide +kernel
theorem dX12_readingsUntilWithin_25 : decode cX12_readingsUntilWithin 25 = .ok (.aload_n 3, 1) := by decide +kernel
theorem dX12_readingsUntilWithin_26 : decode cX12_readingsUntilWithin 26 = .ok (.getfield 166, 3) := by decide +kernel
theorem dX12_readingsUntilWithin_29 : decode cX12_readingsUntilWithin 29 = .ok (.ifCond .le 13, 3) := by decide +kernel
theorem dX12_readingsUntilWithin_32 : decode cX12_readingsUntilWithin 32 = .ok (.aload_n 3, 1) := by decide +kernel
theorem dX12_readingsUntilWithin_33 : decode cX12_readingsUntilWithin 33 = .ok (.invokevirtual 222, 3) := by decide +kernel
theorem dX12_readingsUntilWithin_36 : decode cX12_readingsUntilWithin 36 = .ok (.iload_n 2, 1) := by decide +kernel
theorem dX12_readingsUntilWithin_37 : decode cX12_readingsUntilWithin 37 = .ok (.if_icmp .gt 5, 3) := by decide +kernel
theorem dX12_readingsUntilWithin_40 : decode cX12_readingsUntilWithin 40 = .ok (.iconst 0, 1) := by decide +kernel
theorem dX12_readingsUntilWithin_41 : decode cX12_readingsUntilWithin 41 = .ok (.ireturn, 1) := by decide +kernel
theorem dX12_readingsUntilWithin_42 : decode cX12_readingsUntilWithin 42 = .ok (.iconst 1, 1) := by decide +kernel
theorem dX12_readingsUntilWithin_43 : decode cX12_readingsUntilWithin 43 = .ok (.istore 4, 2) := by decide +kernel
theorem dX12_readingsUntilWithin_45 : decode cX12_readingsUntilWithin 45 = .ok (.iload 4, 2) := by decide +kernel
theorem dX12_readingsUntilWithin_47 : decode cX12_readingsUntilWithin 47 = .ok (.bipush 100, 2) := by decide +kernel
theorem dX12_readingsUntilWithin_49 : decode cX12_readingsUntilWithin 49 = .ok (.if_icmp .gt 35, 3) := by decide +kernel
theorem dX12_readingsUntilWithin_52 : decode cX12_readingsUntilWithin 52 = .ok (.aload_n 0, 1) := by decide +kernel
theorem dX12_readingsUntilWithin_53 : decode cX12_readingsUntilWithin 53 = .ok (.getfield 71, 3) := by decide +kernel
theorem dX12_readingsUntilWithin_56 : decode cX12_readingsUntilWithin 56 = .ok (.aload_n 0, 1) := by decide +kernel
theorem dX12_readingsUntilWithin_57 : decode cX12_readingsUntilWithin 57 = .ok (.getfield 64, 3) := by decide +kernel
theorem dX12_readingsUntilWithin_60 : decode cX12_readingsUntilWithin 60 = .ok (.invokevirtual 214, 3) := by decide +kernel
theorem dX12_readingsUntilWithin_63 : decode cX12_readingsUntilWithin 63 = .ok (.pop, 1) := by decide +kernel
theorem dX12_readingsUntilWithin_64 : decode cX12_readingsUntilWithin 64 = .ok (.aload_n 0, 1) := by decide +kernel
theorem dX12_readingsUntilWithin_65 : decode cX12_readingsUntilWithin 65 = .ok (.getfield 64, 3) := by decide +kernel
theorem dX12_readingsUntilWithin_68 : decode cX12_readingsUntilWithin 68 = .ok (.invokevirtual 222, 3) := by decide +kernel
theorem dX12_readingsUntilWithin_71 : decode cX12_readingsUntilWithin 71 = .ok (.iload_n 2, 1) := by decide +kernel
theorem dX12_readingsUntilWithin_72 : decode cX12_readingsUntilWithin 72 = .ok (.if_icmp .gt 6, 3) := by decide +kernel
theorem dX12_readingsUntilWithin_75 : decode cX12_readingsUntilWithin 75 = .ok (.iload 4, 2) := by decide +kernel
theorem dX12_readingsUntilWithin_77 : decode cX12_readingsUntilWithin 77 = .ok (.ireturn, 1) := by decide +kernel
theorem dX12_readingsUntilWithin_78 : decode cX12_readingsUntilWithin 78 = .ok (.iinc 4 1, 3) := by decide +kernel
theorem dX12_readingsUntilWithin_81 : decode cX12_readingsUntilWithin 81 = .ok (.goto (-36), 3) := by decide +kernel
theorem dX12_readingsUntilWithin_84 : decode cX12_readingsUntilWithin 84 = .ok (.iconst (-1), 1) := by decide +kernel
theorem dX12_readingsUntilWithin_85 : decode cX12_readingsUntilWithin 85 = .ok (.ireturn, 1) := by decide +kernel
theorem dX12_worstErrorWithin_0 : decode cX12_worstErrorWithin 0 = .ok (.aload_n 0, 1) := by decide +kernel
theorem dX12_worstErrorWithin_1 : decode cX12_worstErrorWithin 1 = .ok (.iload_n 1, 1) := by decide +kernel
theorem dX12_worstErrorWithin_2 : decode cX12_worstErrorWithin 2 = .ok (.invokevirtual 119, 3) := by decide +kernel
theorem dX12_worstErrorWithin_5 : decode cX12_worstErrorWithin 5 = .ok (.astore_n 3, 1) := by decide +kernel
theorem dX12_worstErrorWithin_6 : decode cX12_worstErrorWithin 6 = .ok (.iload_n 2, 1) := by decide +kernel
theorem dX12_worstErrorWithin_7 : decode cX12_worstErrorWithin 7 = .ok (.iconst 1, 1) := by decide +kernel
theorem dX12_worstErrorWithin_8 : decode cX12_worstErrorWithin 8 = .ok (.bipush 100, 2) := by decide +kernel
theorem dX12_worstErrorWithin_10 : decode cX12_worstErrorWithin 10 = .ok (.invokestatic 218, 3) := by decide +kernel
theorem dX12_worstErrorWithin_13 : decode cX12_worstErrorWithin 13 = .ok (.aload_n 3, 1) := by decide +kernel
theorem dX12_worstErrorWithin_14 : decode cX12_worstErrorWithin 14 = .ok (.getfield 162, 3) := by decide +kernel
theorem dX12_worstErrorWithin_17 : decode cX12_worstErrorWithin 17 = .ok (.invokestatic 206, 3) := by decide +kernel
theorem dX12_worstErrorWithin_20 : decode cX12_worstErrorWithin 20 = .ok (.aload_n 0, 1) := by decide +kernel
theorem dX12_worstErrorWithin_21 : decode cX12_worstErrorWithin 21 = .ok (.aload_n 3, 1) := by decide +kernel
theorem dX12_worstErrorWithin_22 : decode cX12_worstErrorWithin 22 = .ok (.invokevirtual 210, 3) := by decide +kernel
theorem dX12_worstErrorWithin_25 : decode cX12_worstErrorWithin 25 = .ok (.iconst 0, 1) := by decide +kernel
theorem dX12_worstErrorWithin_26 : decode cX12_worstErrorWithin 26 = .ok (.istore 4, 2) := by decide +kernel
theorem dX12_worstErrorWithin_28 : decode cX12_worstErrorWithin 28 = .ok (.iconst 0, 1) := by decide +kernel
theorem dX12_worstErrorWithin_29 : decode cX12_worstErrorWithin 29 = .ok (.istore 5, 2) := by decide +kernel
theorem dX12_worstErrorWithin_31 : decode cX12_worstErrorWithin 31 = .ok (.iload 5, 2) := by decide +kernel
theorem dX12_worstErrorWithin_33 : decode cX12_worstErrorWithin 33 = .ok (.iload_n 2, 1) := by decide +kernel
theorem dX12_worstErrorWithin_34 : decode cX12_worstErrorWithin 34 = .ok (.if_icmp .ge 35, 3) := by decide +kernel
theorem dX12_worstErrorWithin_37 : decode cX12_worstErrorWithin 37 = .ok (.aload_n 0, 1) := by decide +kernel
theorem dX12_worstErrorWithin_38 : decode cX12_worstErrorWithin 38 = .ok (.getfield 71, 3) := by decide +kernel
theorem dX12_worstErrorWithin_41 : decode cX12_worstErrorWithin 41 = .ok (.aload_n 0, 1) := by decide +kernel
theorem dX12_worstErrorWithin_42 : decode cX12_worstErrorWithin 42 = .ok (.getfield 64, 3) := by decide +kernel
theorem dX12_worstErrorWithin_45 : decode cX12_worstErrorWithin 45 = .ok (.invokevirtual 214, 3) := by decide +kernel
theorem dX12_worstErrorWithin_48 : decode cX12_worstErrorWithin 48 = .ok (.pop, 1) := by decide +kernel
theorem dX12_worstErrorWithin_49 : decode cX12_worstErrorWithin 49 = .ok (.iload 4, 2) := by decide +kernel
theorem dX12_worstErrorWithin_51 : decode cX12_worstErrorWithin 51 = .ok (.aload_n 0, 1) := by decide +kernel
theorem dX12_worstErrorWithin_52 : decode cX12_worstErrorWithin 52 = .ok (.getfield 64, 3) := by decide +kernel
theorem dX12_worstErrorWithin_55 : decode cX12_worstErrorWithin 55 = .ok (.invokevirtual 222, 3) := by decide +kernel
theorem dX12_worstErrorWithin_58 : decode cX12_worstErrorWithin 58 = .ok (.invokestatic 225, 3) := by decide +kernel
theorem dX12_worstErrorWithin_61 : decode cX12_worstErrorWithin 61 = .ok (.istore 4, 2) := by decide +kernel
theorem dX12_worstErrorWithin_63 : decode cX12_worstErrorWithin 63 = .ok (.iinc 5 1, 3) := by decide +kernel
theorem dX12_worstErrorWithin_66 : decode cX12_worstErrorWithin 66 = .ok (.goto (-35), 3) := by decide +kernel
theorem dX12_worstErrorWithin_69 : decode cX12_worstErrorWithin 69 = .ok (.iload 4, 2) := by decide +kernel
theorem dX12_worstErrorWithin_71 : decode cX12_worstErrorWithin 71 = .ok (.ireturn, 1) := by decide +kernel
theorem dX12_moneyOf_0 : decode cX12_moneyOf 0 = .ok (.aload_n 0, 1) := by decide +kernel
theorem dX12_moneyOf_1 : decode cX12_moneyOf 1 = .ok (.iload_n 1, 1) := by decide +kernel
theorem dX12_moneyOf_2 : decode cX12_moneyOf 2 = .ok (.invokevirtual 130, 3) := by decide +kernel
theorem dX12_moneyOf_5 : decode cX12_moneyOf 5 = .ok (.getfield 230, 3) := by decide +kernel
theorem dX12_moneyOf_8 : decode cX12_moneyOf 8 = .ok (.ireturn, 1) := by decide +kernel
theorem dX12_toleranceOf_0 : decode cX12_toleranceOf 0 = .ok (.aload_n 0, 1) := by decide +kernel
theorem dX12_toleranceOf_1 : decode cX12_toleranceOf 1 = .ok (.iload_n 1, 1) := by decide +kernel
theorem dX12_toleranceOf_2 : decode cX12_toleranceOf 2 = .ok (.invokevirtual 130, 3) := by decide +kernel
theorem dX12_toleranceOf_5 : decode cX12_toleranceOf 5 = .ok (.getfield 233, 3) := by decide +kernel
theorem dX12_toleranceOf_8 : decode cX12_toleranceOf 8 = .ok (.ireturn, 1) := by decide +kernel
theorem dX12_trustOf_0 : decode cX12_trustOf 0 = .ok (.aload_n 0, 1) := by decide +kernel
theorem dX12_trustOf_1 : decode cX12_trustOf 1 = .ok (.iload_n 1, 1) := by decide +kernel
theorem dX12_trustOf_2 : decode cX12_trustOf 2 = .ok (.invokevirtual 130, 3) := by decide +kernel
theorem dX12_trustOf_5 : decode cX12_trustOf 5 = .ok (.getfield 236, 3) := by decide +kernel
theorem dX12_trustOf_8 : decode cX12_trustOf 8 = .ok (.ireturn, 1) := by decide +kernel
theorem dX12_purchasesOf_0 : decode cX12_purchasesOf 0 = .ok (.aload_n 0, 1) := by decide +kernel
theorem dX12_purchasesOf_1 : decode cX12_purchasesOf 1 = .ok (.iload_n 1, 1) := by decide +kernel
theorem dX12_purchasesOf_2 : decode cX12_purchasesOf 2 = .ok (.invokevirtual 130, 3) := by decide +kernel
theorem dX12_purchasesOf_5 : decode cX12_purchasesOf 5 = .ok (.getfield 239, 3) := by decide +kernel
theorem dX12_purchasesOf_8 : decode cX12_purchasesOf 8 = .ok (.ireturn, 1) := by decide +kernel
theorem dX12_refusalReason_0 : decode cX12_refusalReason 0 = .ok (.aload_n 0, 1) := by decide +kernel
theorem dX12_refusalReason_1 : decode cX12_refusalReason 1 = .ok (.getfield 10, 3) := by decide +kernel
theorem dX12_refusalReason_4 : decode cX12_refusalReason 4 = .ok (.aload_n 0, 1) := by decide +kernel
theorem dX12_refusalReason_5 : decode cX12_refusalReason 5 = .ok (.iload_n 1, 1) := by decide +kernel
theorem dX12_refusalReason_6 : decode cX12_refusalReason 6 = .ok (.invokevirtual 119, 3) := by decide +kernel
theorem dX12_refusalReason_9 : decode cX12_refusalReason 9 = .ok (.aload_n 0, 1) := by decide +kernel
theorem dX12_refusalReason_10 : decode cX12_refusalReason 10 = .ok (.iload_n 2, 1) := by decide +kernel
theorem dX12_refusalReason_11 : decode cX12_refusalReason 11 = .ok (.invokevirtual 130, 3) := by decide +kernel
theorem dX12_refusalReason_14 : decode cX12_refusalReason 14 = .ok (.invokevirtual 242, 3) := by decide +kernel
theorem dX12_refusalReason_17 : decode cX12_refusalReason 17 = .ok (.ireturn, 1) := by decide +kernel
theorem dX12_refusalDetail_0 : decode cX12_refusalDetail 0 = .ok (.aload_n 0, 1) := by decide +kernel
theorem dX12_refusalDetail_1 : decode cX12_refusalDetail 1 = .ok (.getfield 10, 3) := by decide +kernel
theorem dX12_refusalDetail_4 : decode cX12_refusalDetail 4 = .ok (.aload_n 0, 1) := by decide +kernel
theorem dX12_refusalDetail_5 : decode cX12_refusalDetail 5 = .ok (.iload_n 1, 1) := by decide +kernel
theorem dX12_refusalDetail_6 : decode cX12_refusalDetail 6 = .ok (.invokevirtual 119, 3) := by decide +kernel
theorem dX12_refusalDetail_9 : decode cX12_refusalDetail 9 = .ok (.aload_n 0, 1) := by decide +kernel
theorem dX12_refusalDetail_10 : decode cX12_refusalDetail 10 = .ok (.iload_n 2, 1) := by decide +kernel
theorem dX12_refusalDetail_11 : decode cX12_refusalDetail 11 = .ok (.invokevirtual 130, 3) := by decide +kernel
theorem dX12_refusalDetail_14 : decode cX12_refusalDetail 14 = .ok (.invokevirtual 246, 3) := by decide +kernel
theorem dX12_refusalDetail_17 : decode cX12_refusalDetail 17 = .ok (.ireturn, 1) := by decide +kernel
theorem dX12_bestBuyer_0 : decode cX12_bestBuyer 0 = .ok (.aload_n 0, 1) := by decide +kernel
theorem dX12_bestBuyer_1 : decode cX12_bestBuyer 1 = .ok (.getfield 10, 3) := by decide +kernel
theorem dX12_bestBuyer_4 : decode cX12_bestBuyer 4 = .ok (.aload_n 0, 1) := by decide +kernel
theorem dX12_bestBuyer_5 : decode cX12_bestBuyer 5 = .ok (.iload_n 1, 1) := by decide +kernel
theorem dX12_bestBuyer_6 : decode cX12_bestBuyer 6 = .ok (.invokevirtual 119, 3) := by decide +kernel
theorem dX12_bestBuyer_9 : decode cX12_bestBuyer 9 = .ok (.invokevirtual 249, 3) := by decide +kernel
theorem dX12_bestBuyer_12 : decode cX12_bestBuyer 12 = .ok (.astore_n 2, 1) := by decide +kernel
theorem dX12_bestBuyer_13 : decode cX12_bestBuyer 13 = .ok (.aload_n 2, 1) := by decide +kernel
theorem dX12_bestBuyer_14 : decode cX12_bestBuyer 14 = .ok (.ifnonnull 7, 3) := by decide +kernel
theorem dX12_bestBuyer_17 : decode cX12_bestBuyer 17 = .ok (.iconst (-1), 1) := by decide +kernel
theorem dX12_bestBuyer_18 : decode cX12_bestBuyer 18 = .ok (.goto 7, 3) := by decide +kernel
theorem dX12_bestBuyer_21 : decode cX12_bestBuyer 21 = .ok (.aload_n 2, 1) := by decide +kernel
theorem dX12_bestBuyer_22 : decode cX12_bestBuyer 22 = .ok (.getfield 253, 3) := by decide +kernel
theorem dX12_bestBuyer_25 : decode cX12_bestBuyer 25 = .ok (.ireturn, 1) := by decide +kernel
theorem dX12_trustAfterSale_0 : decode cX12_trustAfterSale 0 = .ok (.aload_n 0, 1) := by decide +kernel
theorem dX12_trustAfterSale_1 : decode cX12_trustAfterSale 1 = .ok (.iload_n 1, 1) := by decide +kernel
theorem dX12_trustAfterSale_2 : decode cX12_trustAfterSale 2 = .ok (.invokevirtual 119, 3) := by decide +kernel
theorem dX12_trustAfterSale_5 : decode cX12_trustAfterSale 5 = .ok (.astore_n 3, 1) := by decide +kernel
theorem dX12_trustAfterSale_6 : decode cX12_trustAfterSale 6 = .ok (.aload_n 0, 1) := by decide +kernel
theorem dX12_trustAfterSale_7 : decode cX12_trustAfterSale 7 = .ok (.iload_n 2, 1) := by decide +kernel
theorem dX12_trustAfterSale_8 : decode cX12_trustAfterSale 8 = .ok (.invokevirtual 130, 3) := by decide +kernel
theorem dX12_trustAfterSale_11 : decode cX12_trustAfterSale 11 = .ok (.astore 4, 2) := by decide +kernel
theorem dX12_trustAfterSale_13 : decode cX12_trustAfterSale 13 = .ok (.aload_n 0, 1) := by decide +kernel
theorem dX12_trustAfterSale_14 : decode cX12_trustAfterSale 14 = .ok (.getfield 10, 3) := by decide +kernel
theorem dX12_trustAfterSale_17 : decode cX12_trustAfterSale 17 = .ok (.aload_n 3, 1) := by decide +kernel
theorem dX12_trustAfterSale_18 : decode cX12_trustAfterSale 18 = .ok (.aload 4, 2) := by decide +kernel
theorem dX12_trustAfterSale_20 : decode cX12_trustAfterSale 20 = .ok (.invokevirtual 242, 3) := by decide +kernel
theorem dX12_trustAfterSale_23 : decode cX12_trustAfterSale 23 = .ok (.ifCond .ne 7, 3) := by decide +kernel
theorem dX12_trustAfterSale_26 : decode cX12_trustAfterSale 26 = .ok (.iconst 1, 1) := by decide +kernel
theorem dX12_trustAfterSale_27 : decode cX12_trustAfterSale 27 = .ok (.goto 4, 3) := by decide +kernel
theorem dX12_trustAfterSale_30 : decode cX12_trustAfterSale 30 = .ok (.iconst 0, 1) := by decide +kernel
theorem dX12_trustAfterSale_31 : decode cX12_trustAfterSale 31 = .ok (.invokestatic 206, 3) := by decide +kernel
theorem dX12_trustAfterSale_34 : decode cX12_trustAfterSale 34 = .ok (.aload 4, 2) := by decide +kernel
theorem dX12_trustAfterSale_36 : decode cX12_trustAfterSale 36 = .ok (.aload_n 3, 1) := by decide +kernel
theorem dX12_trustAfterSale_37 : decode cX12_trustAfterSale 37 = .ok (.invokevirtual 178, 3) := by decide +kernel
theorem dX12_trustAfterSale_40 : decode cX12_trustAfterSale 40 = .ok (.invokevirtual 254, 3) := by decide +kernel
theorem dX12_trustAfterSale_43 : decode cX12_trustAfterSale 43 = .ok (.ireturn, 1) := by decide +kernel
theorem dX12_totalReadings_0 : decode cX12_totalReadings 0 = .ok (.aload_n 0, 1) := by decide +kernel
theorem dX12_totalReadings_1 : decode cX12_totalReadings 1 = .ok (.getfield 10, 3) := by decide +kernel
theorem dX12_totalReadings_4 : decode cX12_totalReadings 4 = .ok (.getfield 258, 3) := by decide +kernel
theorem dX12_totalReadings_7 : decode cX12_totalReadings 7 = .ok (.getfield 262, 3) := by decide +kernel
theorem dX12_totalReadings_10 : decode cX12_totalReadings 10 = .ok (.ireturn, 1) := by decide +kernel
theorem dX12_totalDiscarded_0 : decode cX12_totalDiscarded 0 = .ok (.aload_n 0, 1) := by decide +kernel
theorem dX12_totalDiscarded_1 : decode cX12_totalDiscarded 1 = .ok (.getfield 10, 3) := by decide +kernel
theorem dX12_totalDiscarded_4 : decode cX12_totalDiscarded 4 = .ok (.getfield 258, 3) := by decide +kernel
theorem dX12_totalDiscarded_7 : decode cX12_totalDiscarded 7 = .ok (.getfield 265, 3) := by decide +kernel
theorem dX12_totalDiscarded_10 : decode cX12_totalDiscarded 10 = .ok (.ireturn, 1) := by decide +kernel
theorem dX12_springsReplaced_0 : decode cX12_springsReplaced 0 = .ok (.aload_n 0, 1) := by decide +kernel
theorem dX12_springsReplaced_1 : decode cX12_springsReplaced 1 = .ok (.getfield 10, 3) := by decide +kernel
theorem dX12_springsReplaced_4 : decode cX12_springsReplaced 4 = .ok (.getfield 258, 3) := by decide +kernel
theorem dX12_springsReplaced_7 : decode cX12_springsReplaced 7 = .ok (.getfield 268, 3) := by decide +kernel
theorem dX12_springsReplaced_10 : decode cX12_springsReplaced 10 = .ok (.ireturn, 1) := by decide +kernel
theorem dX12_salesCount_0 : decode cX12_salesCount 0 = .ok (.aload_n 0, 1) := by decide +kernel
theorem dX12_salesCount_1 : decode cX12_salesCount 1 = .ok (.getfield 10, 3) := by decide +kernel
theorem dX12_salesCount_4 : decode cX12_salesCount 4 = .ok (.getfield 258, 3) := by decide +kernel
theorem dX12_salesCount_7 : decode cX12_salesCount 7 = .ok (.getfield 271, 3) := by decide +kernel
theorem dX12_salesCount_10 : decode cX12_salesCount 10 = .ok (.ireturn, 1) := by decide +kernel
theorem dX12_totalPrices_0 : decode cX12_totalPrices 0 = .ok (.aload_n 0, 1) := by decide +kernel
theorem dX12_totalPrices_1 : decode cX12_totalPrices 1 = .ok (.getfield 10, 3) := by decide +kernel
theorem dX12_totalPrices_4 : decode cX12_totalPrices 4 = .ok (.getfield 258, 3) := by decide +kernel
theorem dX12_totalPrices_7 : decode cX12_totalPrices 7 = .ok (.getfield 274, 3) := by decide +kernel
theorem dX12_totalPrices_10 : decode cX12_totalPrices 10 = .ok (.ireturn, 1) := by decide +kernel
theorem dX12_totalRefunds_0 : decode cX12_totalRefunds 0 = .ok (.aload_n 0, 1) := by decide +kernel
theorem dX12_totalRefunds_1 : decode cX12_totalRefunds 1 = .ok (.getfield 10, 3) := by decide +kernel
theorem dX12_totalRefunds_4 : decode cX12_totalRefunds 4 = .ok (.getfield 258, 3) := by decide +kernel
theorem dX12_totalRefunds_7 : decode cX12_totalRefunds 7 = .ok (.getfield 277, 3) := by decide +kernel
theorem dX12_totalRefunds_10 : decode cX12_totalRefunds 10 = .ok (.ireturn, 1) := by decide +kernel
theorem dX12_isConsistent_0 : decode cX12_isConsistent 0 = .ok (.aload_n 0, 1) := by decide +kernel
theorem dX12_isConsistent_1 : decode cX12_isConsistent 1 = .ok (.getfield 10, 3) := by decide +kernel
theorem dX12_isConsistent_4 : decode cX12_isConsistent 4 = .ok (.invokevirtual 280, 3) := by decide +kernel
theorem dX12_isConsistent_7 : decode cX12_isConsistent 7 = .ok (.ifCond .eq 27, 3) := by decide +kernel
theorem dX12_isConsistent_10 : decode cX12_isConsistent 10 = .ok (.aload_n 0, 1) := by decide +kernel
theorem dX12_isConsistent_11 : decode cX12_isConsistent 11 = .ok (.getfield 10, 3) := by decide +kernel
theorem dX12_isConsistent_14 : decode cX12_isConsistent 14 = .ok (.invokevirtual 283, 3) := by decide +kernel
theorem dX12_isConsistent_17 : decode cX12_isConsistent 17 = .ok (.ifCond .eq 17, 3) := by decide +kernel
theorem dX12_isConsistent_20 : decode cX12_isConsistent 20 = .ok (.aload_n 0, 1) := by decide +kernel
theorem dX12_isConsistent_21 : decode cX12_isConsistent 21 = .ok (.getfield 10, 3) := by decide +kernel
theorem dX12_isConsistent_24 : decode cX12_isConsistent 24 = .ok (.invokevirtual 286, 3) := by decide +kernel
theorem dX12_isConsistent_27 : decode cX12_isConsistent 27 = .ok (.ifCond .eq 7, 3) := by decide +kernel
theorem dX12_isConsistent_30 : decode cX12_isConsistent 30 = .ok (.iconst 1, 1) := by decide +kernel
theorem dX12_isConsistent_31 : decode cX12_isConsistent 31 = .ok (.goto 4, 3) := by decide +kernel
theorem dX12_isConsistent_34 : decode cX12_isConsistent 34 = .ok (.iconst 0, 1) := by decide +kernel
theorem dX12_isConsistent_35 : decode cX12_isConsistent 35 = .ok (.ireturn, 1) := by decide +kernel
theorem dX12_averageTrust_0 : decode cX12_averageTrust 0 = .ok (.aload_n 0, 1) := by decide +kernel
theorem dX12_averageTrust_1 : decode cX12_averageTrust 1 = .ok (.getfield 10, 3) := by decide +kernel
theorem dX12_averageTrust_4 : decode cX12_averageTrust 4 = .ok (.getfield 116, 3) := by decide +kernel
theorem dX12_averageTrust_7 : decode cX12_averageTrust 7 = .ok (.ifCond .ne 5, 3) := by decide +kernel
theorem dX12_averageTrust_10 : decode cX12_averageTrust 10 = .ok (.fconst 0, 1) := by decide +kernel
theorem dX12_averageTrust_11 : decode cX12_averageTrust 11 = .ok (.freturn, 1) := by decide +kernel
theorem dX12_averageTrust_12 : decode cX12_averageTrust 12 = .ok (.aload_n 0, 1) := by decide +kernel
theorem dX12_averageTrust_13 : decode cX12_averageTrust 13 = .ok (.getfield 10, 3) := by decide +kernel
theorem dX12_averageTrust_16 : decode cX12_averageTrust 16 = .ok (.invokevirtual 289, 3) := by decide +kernel
theorem dX12_averageTrust_19 : decode cX12_averageTrust 19 = .ok (.i2f, 1) := by decide +kernel
theorem dX12_averageTrust_20 : decode cX12_averageTrust 20 = .ok (.aload_n 0, 1) := by decide +kernel
theorem dX12_averageTrust_21 : decode cX12_averageTrust 21 = .ok (.getfield 10, 3) := by decide +kernel
theorem dX12_averageTrust_24 : decode cX12_averageTrust 24 = .ok (.getfield 116, 3) := by decide +kernel
theorem dX12_averageTrust_27 : decode cX12_averageTrust 27 = .ok (.i2f, 1) := by decide +kernel
theorem dX12_averageTrust_28 : decode cX12_averageTrust 28 = .ok (.fdiv, 1) := by decide +kernel
theorem dX12_averageTrust_29 : decode cX12_averageTrust 29 = .ok (.freturn, 1) := by decide +kernel
theorem dX12_weigh_0 : decode cX12_weigh 0 = .ok (.aload_n 0, 1) := by decide +kernel
theorem dX12_weigh_1 : decode cX12_weigh 1 = .ok (.iload_n 1, 1) := by decide +kernel
theorem dX12_weigh_2 : decode cX12_weigh 2 = .ok (.invokevirtual 119, 3) := by decide +kernel
theorem dX12_weigh_5 : decode cX12_weigh 5 = .ok (.astore_n 2, 1) := by decide +kernel
theorem dX12_weigh_6 : decode cX12_weigh 6 = .ok (.aload_n 2, 1) := by decide +kernel
theorem dX12_weigh_7 : decode cX12_weigh 7 = .ok (.getfield 162, 3) := by decide +kernel
theorem dX12_weigh_10 : decode cX12_weigh 10 = .ok (.invokestatic 206, 3) := by decide +kernel
theorem dX12_weigh_13 : decode cX12_weigh 13 = .ok (.aload_n 0, 1) := by decide +kernel
theorem dX12_weigh_14 : decode cX12_weigh 14 = .ok (.getfield 25, 3) := by decide +kernel
theorem dX12_weigh_17 : decode cX12_weigh 17 = .ok (.aload_n 0, 1) := by decide +kernel
theorem dX12_weigh_18 : decode cX12_weigh 18 = .ok (.getfield 10, 3) := by decide +kernel
theorem dX12_weigh_21 : decode cX12_weigh 21 = .ok (.invokevirtual 102, 3) := by decide +kernel
theorem dX12_weigh_24 : decode cX12_weigh 24 = .ok (.aload_n 0, 1) := by decide +kernel
theorem dX12_weigh_25 : decode cX12_weigh 25 = .ok (.getfield 10, 3) := by decide +kernel
theorem dX12_weigh_28 : decode cX12_weigh 28 = .ok (.aload_n 2, 1) := by decide +kernel
theorem dX12_weigh_29 : decode cX12_weigh 29 = .ok (.invokevirtual 292, 3) := by decide +kernel
theorem dX12_weigh_32 : decode cX12_weigh 32 = .ok (.ireturn, 1) := by decide +kernel
theorem dX12_addGoods_0 : decode cX12_addGoods 0 = .ok (.aload_n 0, 1) := by decide +kernel
theorem dX12_addGoods_1 : decode cX12_addGoods 1 = .ok (.iload_n 1, 1) := by decide +kernel
theorem dX12_addGoods_2 : decode cX12_addGoods 2 = .ok (.invokevirtual 119, 3) := by decide +kernel
theorem dX12_addGoods_5 : decode cX12_addGoods 5 = .ok (.astore_n 3, 1) := by decide +kernel
theorem dX12_addGoods_6 : decode cX12_addGoods 6 = .ok (.iload_n 2, 1) := by decide +kernel
theorem dX12_addGoods_7 : decode cX12_addGoods 7 = .ok (.iconst 1, 1) := by decide +kernel
theorem dX12_addGoods_8 : decode cX12_addGoods 8 = .ok (.sipush 500, 3) := by decide +kernel
theorem dX12_addGoods_11 : decode cX12_addGoods 11 = .ok (.invokestatic 218, 3) := by decide +kernel
theorem dX12_addGoods_14 : decode cX12_addGoods 14 = .ok (.aload_n 3, 1) := by decide +kernel
theorem dX12_addGoods_15 : decode cX12_addGoods 15 = .ok (.iload_n 2, 1) := by decide +kernel
theorem dX12_addGoods_16 : decode cX12_addGoods 16 = .ok (.invokevirtual 295, 3) := by decide +kernel
theorem dX12_addGoods_19 : decode cX12_addGoods 19 = .ok (.invokestatic 206, 3) := by decide +kernel
theorem dX12_addGoods_22 : decode cX12_addGoods 22 = .ok (.aload_n 0, 1) := by decide +kernel
theorem dX12_addGoods_23 : decode cX12_addGoods 23 = .ok (.getfield 25, 3) := by decide +kernel
theorem dX12_addGoods_26 : decode cX12_addGoods 26 = .ok (.aload_n 0, 1) := by decide +kernel
theorem dX12_addGoods_27 : decode cX12_addGoods 27 = .ok (.getfield 10, 3) := by decide +kernel
theorem dX12_addGoods_30 : decode cX12_addGoods 30 = .ok (.invokevirtual 102, 3) := by decide +kernel
theorem dX12_addGoods_33 : decode cX12_addGoods 33 = .ok (.aload_n 0, 1) := by decide +kernel
theorem dX12_addGoods_34 : decode cX12_addGoods 34 = .ok (.getfield 10, 3) := by decide +kernel
theorem dX12_addGoods_37 : decode cX12_addGoods 37 = .ok (.aload_n 3, 1) := by decide +kernel
theorem dX12_addGoods_38 : decode cX12_addGoods 38 = .ok (.iload_n 2, 1) := by decide +kernel
theorem dX12_addGoods_39 : decode cX12_addGoods 39 = .ok (.invokevirtual 299, 3) := by decide +kernel
theorem dX12_addGoods_42 : decode cX12_addGoods 42 = .ok (.aload_n 3, 1) := by decide +kernel
theorem dX12_addGoods_43 : decode cX12_addGoods 43 = .ok (.getfield 143, 3) := by decide +kernel
theorem dX12_addGoods_46 : decode cX12_addGoods 46 = .ok (.ireturn, 1) := by decide +kernel
theorem dX12_removeGoods_0 : decode cX12_removeGoods 0 = .ok (.aload_n 0, 1) := by decide +kernel
theorem dX12_removeGoods_1 : decode cX12_removeGoods 1 = .ok (.iload_n 1, 1) := by decide +kernel
theorem dX12_removeGoods_2 : decode cX12_removeGoods 2 = .ok (.invokevirtual 119, 3) := by decide +kernel
theorem dX12_removeGoods_5 : decode cX12_removeGoods 5 = .ok (.astore_n 3, 1) := by decide +kernel
theorem dX12_removeGoods_6 : decode cX12_removeGoods 6 = .ok (.iload_n 2, 1) := by decide +kernel
theorem dX12_removeGoods_7 : decode cX12_removeGoods 7 = .ok (.iconst 1, 1) := by decide +kernel
theorem dX12_removeGoods_8 : decode cX12_removeGoods 8 = .ok (.sipush 500, 3) := by decide +kernel
theorem dX12_removeGoods_11 : decode cX12_removeGoods 11 = .ok (.invokestatic 218, 3) := by decide +kernel
theorem dX12_removeGoods_14 : decode cX12_removeGoods 14 = .ok (.aload_n 3, 1) := by decide +kernel
theorem dX12_removeGoods_15 : decode cX12_removeGoods 15 = .ok (.iload_n 2, 1) := by decide +kernel
theorem dX12_removeGoods_16 : decode cX12_removeGoods 16 = .ok (.invokevirtual 303, 3) := by decide +kernel
theorem dX12_removeGoods_19 : decode cX12_removeGoods 19 = .ok (.invokestatic 206, 3) := by decide +kernel
theorem dX12_removeGoods_22 : decode cX12_removeGoods 22 = .ok (.aload_n 0, 1) := by decide +kernel
theorem dX12_removeGoods_23 : decode cX12_removeGoods 23 = .ok (.getfield 25, 3) := by decide +kernel
theorem dX12_removeGoods_26 : decode cX12_removeGoods 26 = .ok (.aload_n 0, 1) := by decide +kernel
theorem dX12_removeGoods_27 : decode cX12_removeGoods 27 = .ok (.getfield 10, 3) := by decide +kernel
theorem dX12_removeGoods_30 : decode cX12_removeGoods 30 = .ok (.invokevirtual 102, 3) := by decide +kernel
theorem dX12_removeGoods_33 : decode cX12_removeGoods 33 = .ok (.aload_n 0, 1) := by decide +kernel
theorem dX12_removeGoods_34 : decode cX12_removeGoods 34 = .ok (.getfield 10, 3) := by decide +kernel
theorem dX12_removeGoods_37 : decode cX12_removeGoods 37 = .ok (.aload_n 3, 1) := by decide +kernel
theorem dX12_removeGoods_38 : decode cX12_removeGoods 38 = .ok (.iload_n 2, 1) := by decide +kernel
theorem dX12_removeGoods_39 : decode cX12_removeGoods 39 = .ok (.ineg, 1) := by decide +kernel
theorem dX12_removeGoods_40 : decode cX12_removeGoods 40 = .ok (.invokevirtual 299, 3) := by decide +kernel
theorem dX12_removeGoods_43 : decode cX12_removeGoods 43 = .ok (.aload_n 3, 1) := by decide +kernel
theorem dX12_removeGoods_44 : decode cX12_removeGoods 44 = .ok (.getfield 143, 3) := by decide +kernel
theorem dX12_removeGoods_47 : decode cX12_removeGoods 47 = .ok (.ireturn, 1) := by decide +kernel
theorem dX12_moveInto_0 : decode cX12_moveInto 0 = .ok (.aload_n 0, 1) := by decide +kernel
theorem dX12_moveInto_1 : decode cX12_moveInto 1 = .ok (.iload_n 1, 1) := by decide +kernel
theorem dX12_moveInto_2 : decode cX12_moveInto 2 = .ok (.invokevirtual 119, 3) := by decide +kernel
theorem dX12_moveInto_5 : decode cX12_moveInto 5 = .ok (.astore_n 3, 1) := by decide +kernel
theorem dX12_moveInto_6 : decode cX12_moveInto 6 = .ok (.aload_n 0, 1) := by decide +kernel
theorem dX12_moveInto_7 : decode cX12_moveInto 7 = .ok (.iload_n 2, 1) := by decide +kernel
theorem dX12_moveInto_8 : decode cX12_moveInto 8 = .ok (.invokevirtual 119, 3) := by decide +kernel
theorem dX12_moveInto_11 : decode cX12_moveInto 11 = .ok (.astore 4, 2) := by decide +kernel
theorem dX12_moveInto_13 : decode cX12_moveInto 13 = .ok (.aload_n 0, 1) := by decide +kernel
theorem dX12_moveInto_14 : decode cX12_moveInto 14 = .ok (.getfield 10, 3) := by decide +kernel
theorem dX12_moveInto_17 : decode cX12_moveInto 17 = .ok (.aload_n 3, 1) := by decide +kernel
theorem dX12_moveInto_18 : decode cX12_moveInto 18 = .ok (.aload 4, 2) := by decide +kernel
theorem dX12_moveInto_20 : decode cX12_moveInto 20 = .ok (.invokevirtual 306, 3) := by decide +kernel
theorem dX12_moveInto_23 : decode cX12_moveInto 23 = .ok (.invokestatic 206, 3) := by decide +kernel
theorem dX12_moveInto_26 : decode cX12_moveInto 26 = .ok (.aload_n 0, 1) := by decide +kernel
theorem dX12_moveInto_27 : decode cX12_moveInto 27 = .ok (.getfield 25, 3) := by decide +kernel
theorem dX12_moveInto_30 : decode cX12_moveInto 30 = .ok (.aload_n 0, 1) := by decide +kernel
theorem dX12_moveInto_31 : decode cX12_moveInto 31 = .ok (.getfield 10, 3) := by decide +kernel
theorem dX12_moveInto_34 : decode cX12_moveInto 34 = .ok (.invokevirtual 102, 3) := by decide +kernel
theorem dX12_moveInto_37 : decode cX12_moveInto 37 = .ok (.aload_n 0, 1) := by decide +kernel
theorem dX12_moveInto_38 : decode cX12_moveInto 38 = .ok (.getfield 10, 3) := by decide +kernel
theorem dX12_moveInto_41 : decode cX12_moveInto 41 = .ok (.aload_n 3, 1) := by decide +kernel
theorem dX12_moveInto_42 : decode cX12_moveInto 42 = .ok (.aload 4, 2) := by decide +kernel
theorem dX12_moveInto_44 : decode cX12_moveInto 44 = .ok (.invokevirtual 310, 3) := by decide +kernel
theorem dX12_moveInto_47 : decode cX12_moveInto 47 = .ok (.aload_n 3, 1) := by decide +kernel
theorem dX12_moveInto_48 : decode cX12_moveInto 48 = .ok (.invokevirtual 149, 3) := by decide +kernel
theorem dX12_moveInto_51 : decode cX12_moveInto 51 = .ok (.ireturn, 1) := by decide +kernel
theorem dX12_takeOut_0 : decode cX12_takeOut 0 = .ok (.aload_n 0, 1) := by decide +kernel
theorem dX12_takeOut_1 : decode cX12_takeOut 1 = .ok (.iload_n 1, 1) := by decide +kernel
theorem dX12_takeOut_2 : decode cX12_takeOut 2 = .ok (.invokevirtual 119, 3) := by decide +kernel
theorem dX12_takeOut_5 : decode cX12_takeOut 5 = .ok (.astore_n 2, 1) := by decide +kernel
theorem dX12_takeOut_6 : decode cX12_takeOut 6 = .ok (.aload_n 2, 1) := by decide +kernel
theorem dX12_takeOut_7 : decode cX12_takeOut 7 = .ok (.getfield 314, 3) := by decide +kernel
theorem dX12_takeOut_10 : decode cX12_takeOut 10 = .ok (.astore_n 3, 1) := by decide +kernel
theorem dX12_takeOut_11 : decode cX12_takeOut 11 = .ok (.aload_n 3, 1) := by decide +kernel
theorem dX12_takeOut_12 : decode cX12_takeOut 12 = .ok (.ifnull 10, 3) := by decide +kernel
theorem dX12_takeOut_15 : decode cX12_takeOut 15 = .ok (.aload_n 2, 1) := by decide +kernel
theorem dX12_takeOut_16 : decode cX12_takeOut 16 = .ok (.getfield 162, 3) := by decide +kernel
theorem dX12_takeOut_19 : decode cX12_takeOut 19 = .ok (.ifCond .ne 14, 3) := by decide +kernel
theorem dX12_takeOut_22 : decode cX12_takeOut 22 = .ok (.new 317, 3) := by decide +kernel
theorem dX12_takeOut_25 : decode cX12_takeOut 25 = .ok (.dup, 1) := by decide +kernel
theorem dX12_takeOut_26 : decode cX12_takeOut 26 = .ok (.ldc_w 319, 3) := by decide +kernel
theorem dX12_takeOut_29 : decode cX12_takeOut 29 = .ok (.invokespecial 321, 3) := by decide +kernel
theorem dX12_takeOut_32 : decode cX12_takeOut 32 = .ok (.athrow, 1) := by decide +kernel
theorem dX12_takeOut_33 : decode cX12_takeOut 33 = .ok (.aload_n 0, 1) := by decide +kernel
theorem dX12_takeOut_34 : decode cX12_takeOut 34 = .ok (.getfield 25, 3) := by decide +kernel
theorem dX12_takeOut_37 : decode cX12_takeOut 37 = .ok (.aload_n 0, 1) := by decide +kernel
theorem dX12_takeOut_38 : decode cX12_takeOut 38 = .ok (.getfield 10, 3) := by decide +kernel
theorem dX12_takeOut_41 : decode cX12_takeOut 41 = .ok (.invokevirtual 102, 3) := by decide +kernel
theorem dX12_takeOut_44 : decode cX12_takeOut 44 = .ok (.aload_n 0, 1) := by decide +kernel
theorem dX12_takeOut_45 : decode cX12_takeOut 45 = .ok (.getfield 10, 3) := by decide +kernel
theorem dX12_takeOut_48 : decode cX12_takeOut 48 = .ok (.aload_n 2, 1) := by decide +kernel
theorem dX12_takeOut_49 : decode cX12_takeOut 49 = .ok (.invokevirtual 323, 3) := by decide +kernel
theorem dX12_takeOut_52 : decode cX12_takeOut 52 = .ok (.aload_n 3, 1) := by decide +kernel
theorem dX12_takeOut_53 : decode cX12_takeOut 53 = .ok (.getfield 143, 3) := by decide +kernel
theorem dX12_takeOut_56 : decode cX12_takeOut 56 = .ok (.ireturn, 1) := by decide +kernel
theorem dX12_replaceSpring_0 : decode cX12_replaceSpring 0 = .ok (.aload_n 0, 1) := by decide +kernel
theorem dX12_replaceSpring_1 : decode cX12_replaceSpring 1 = .ok (.getfield 10, 3) := by decide +kernel
theorem dX12_replaceSpring_4 : decode cX12_replaceSpring 4 = .ok (.getfield 185, 3) := by decide +kernel
theorem dX12_replaceSpring_7 : decode cX12_replaceSpring 7 = .ok (.getfield 188, 3) := by decide +kernel
theorem dX12_replaceSpring_10 : decode cX12_replaceSpring 10 = .ok (.istore_n 1, 1) := by decide +kernel
theorem dX12_replaceSpring_11 : decode cX12_replaceSpring 11 = .ok (.aload_n 0, 1) := by decide +kernel
theorem dX12_replaceSpring_12 : decode cX12_replaceSpring 12 = .ok (.getfield 25, 3) := by decide +kernel
theorem dX12_replaceSpring_15 : decode cX12_replaceSpring 15 = .ok (.aload_n 0, 1) := by decide +kernel
theorem dX12_replaceSpring_16 : decode cX12_replaceSpring 16 = .ok (.getfield 10, 3) := by decide +kernel
theorem dX12_replaceSpring_19 : decode cX12_replaceSpring 19 = .ok (.invokevirtual 102, 3) := by decide +kernel
theorem dX12_replaceSpring_22 : decode cX12_replaceSpring 22 = .ok (.aload_n 0, 1) := by decide +kernel
theorem dX12_replaceSpring_23 : decode cX12_replaceSpring 23 = .ok (.getfield 10, 3) := by decide +kernel
theorem dX12_replaceSpring_26 : decode cX12_replaceSpring 26 = .ok (.invokevirtual 326, 3) := by decide +kernel
theorem dX12_replaceSpring_29 : decode cX12_replaceSpring 29 = .ok (.iload_n 1, 1) := by decide +kernel
theorem dX12_replaceSpring_30 : decode cX12_replaceSpring 30 = .ok (.ireturn, 1) := by decide +kernel
theorem dX12_sell_0 : decode cX12_sell 0 = .ok (.aload_n 0, 1) := by decide +kernel
theorem dX12_sell_1 : decode cX12_sell 1 = .ok (.iload_n 1, 1) := by decide +kernel
theorem dX12_sell_2 : decode cX12_sell 2 = .ok (.invokevirtual 119, 3) := by decide +kernel
theorem dX12_sell_5 : decode cX12_sell 5 = .ok (.astore_n 3, 1) := by decide +kernel
theorem dX12_sell_6 : decode cX12_sell 6 = .ok (.aload_n 0, 1) := by decide +kernel
theorem dX12_sell_7 : decode cX12_sell 7 = .ok (.iload_n 2, 1) := by decide +kernel
theorem dX12_sell_8 : decode cX12_sell 8 = .ok (.invokevirtual 130, 3) := by decide +kernel
theorem dX12_sell_11 : decode cX12_sell 11 = .ok (.astore 4, 2) := by decide +kernel
theorem dX12_sell_13 : decode cX12_sell 13 = .ok (.aload_n 0, 1) := by decide +kernel
theorem dX12_sell_14 : decode cX12_sell 14 = .ok (.getfield 10, 3) := by decide +kernel
theorem dX12_sell_17 : decode cX12_sell 17 = .ok (.aload_n 3, 1) := by decide +kernel
theorem dX12_sell_18 : decode cX12_sell 18 = .ok (.aload 4, 2) := by decide +kernel
theorem dX12_sell_20 : decode cX12_sell 20 = .ok (.invokevirtual 242, 3) := by decide +kernel
theorem dX12_sell_23 : decode cX12_sell 23 = .ok (.ifCond .ne 7, 3) := by decide +kernel
theorem dX12_sell_26 : decode cX12_sell 26 = .ok (.iconst 1, 1) := by decide +kernel
theorem dX12_sell_27 : decode cX12_sell 27 = .ok (.goto 4, 3) := by decide +kernel
theorem dX12_sell_30 : decode cX12_sell 30 = .ok (.iconst 0, 1) := by decide +kernel
theorem dX12_sell_31 : decode cX12_sell 31 = .ok (.invokestatic 206, 3) := by decide +kernel
theorem dX12_sell_34 : decode cX12_sell 34 = .ok (.aload_n 0, 1) := by decide +kernel
theorem dX12_sell_35 : decode cX12_sell 35 = .ok (.getfield 25, 3) := by decide +kernel
theorem dX12_sell_38 : decode cX12_sell 38 = .ok (.aload_n 0, 1) := by decide +kernel
theorem dX12_sell_39 : decode cX12_sell 39 = .ok (.getfield 10, 3) := by decide +kernel
theorem dX12_sell_42 : decode cX12_sell 42 = .ok (.invokevirtual 102, 3) := by decide +kernel
theorem dX12_sell_45 : decode cX12_sell 45 = .ok (.aload_n 0, 1) := by decide +kernel
theorem dX12_sell_46 : decode cX12_sell 46 = .ok (.getfield 10, 3) := by decide +kernel
theorem dX12_sell_49 : decode cX12_sell 49 = .ok (.aload_n 3, 1) := by decide +kernel
theorem dX12_sell_50 : decode cX12_sell 50 = .ok (.aload 4, 2) := by decide +kernel
theorem dX12_sell_52 : decode cX12_sell 52 = .ok (.invokevirtual 329, 3) := by decide +kernel
theorem dX12_sell_55 : decode cX12_sell 55 = .ok (.ireturn, 1) := by decide +kernel
theorem dX12_setAmplitude_0 : decode cX12_setAmplitude 0 = .ok (.iload_n 1, 1) := by decide +kernel
theorem dX12_setAmplitude_1 : decode cX12_setAmplitude 1 = .ok (.iconst 0, 1) := by decide +kernel
theorem dX12_setAmplitude_2 : decode cX12_setAmplitude 2 = .ok (.bipush 50, 2) := by decide +kernel
theorem dX12_setAmplitude_4 : decode cX12_setAmplitude 4 = .ok (.invokestatic 218, 3) := by decide +kernel
theorem dX12_setAmplitude_7 : decode cX12_setAmplitude 7 = .ok (.aload_n 0, 1) := by decide +kernel
theorem dX12_setAmplitude_8 : decode cX12_setAmplitude 8 = .ok (.getfield 10, 3) := by decide +kernel
theorem dX12_setAmplitude_11 : decode cX12_setAmplitude 11 = .ok (.getfield 185, 3) := by decide +kernel
theorem dX12_setAmplitude_14 : decode cX12_setAmplitude 14 = .ok (.getfield 194, 3) := by decide +kernel
theorem dX12_setAmplitude_17 : decode cX12_setAmplitude 17 = .ok (.istore_n 2, 1) := by decide +kernel
theorem dX12_setAmplitude_18 : decode cX12_setAmplitude 18 = .ok (.aload_n 0, 1) := by decide +kernel
theorem dX12_setAmplitude_19 : decode cX12_setAmplitude 19 = .ok (.getfield 25, 3) := by decide +kernel
theorem dX12_setAmplitude_22 : decode cX12_setAmplitude 22 = .ok (.aload_n 0, 1) := by decide +kernel
theorem dX12_setAmplitude_23 : decode cX12_setAmplitude 23 = .ok (.getfield 10, 3) := by decide +kernel
theorem dX12_setAmplitude_26 : decode cX12_setAmplitude 26 = .ok (.invokevirtual 102, 3) := by decide +kernel
theorem dX12_setAmplitude_29 : decode cX12_setAmplitude 29 = .ok (.aload_n 0, 1) := by decide +kernel
theorem dX12_setAmplitude_30 : decode cX12_setAmplitude 30 = .ok (.getfield 10, 3) := by decide +kernel
theorem dX12_setAmplitude_33 : decode cX12_setAmplitude 33 = .ok (.getfield 185, 3) := by decide +kernel
theorem dX12_setAmplitude_36 : decode cX12_setAmplitude 36 = .ok (.iload_n 1, 1) := by decide +kernel
theorem dX12_setAmplitude_37 : decode cX12_setAmplitude 37 = .ok (.putfield 194, 3) := by decide +kernel
theorem dX12_setAmplitude_40 : decode cX12_setAmplitude 40 = .ok (.iload_n 2, 1) := by decide +kernel
theorem dX12_setAmplitude_41 : decode cX12_setAmplitude 41 = .ok (.ireturn, 1) := by decide +kernel
theorem dX12_setAging_0 : decode cX12_setAging 0 = .ok (.iload_n 1, 1) := by decide +kernel
theorem dX12_setAging_1 : decode cX12_setAging 1 = .ok (.iconst 1, 1) := by decide +kernel
theorem dX12_setAging_2 : decode cX12_setAging 2 = .ok (.bipush 100, 2) := by decide +kernel
theorem dX12_setAging_4 : decode cX12_setAging 4 = .ok (.invokestatic 218, 3) := by decide +kernel
theorem dX12_setAging_7 : decode cX12_setAging 7 = .ok (.aload_n 0, 1) := by decide +kernel
theorem dX12_setAging_8 : decode cX12_setAging 8 = .ok (.getfield 10, 3) := by decide +kernel
theorem dX12_setAging_11 : decode cX12_setAging 11 = .ok (.getfield 185, 3) := by decide +kernel
theorem dX12_setAging_14 : decode cX12_setAging 14 = .ok (.getfield 197, 3) := by decide +kernel
theorem dX12_setAging_17 : decode cX12_setAging 17 = .ok (.istore_n 2, 1) := by decide +kernel
theorem dX12_setAging_18 : decode cX12_setAging 18 = .ok (.aload_n 0, 1) := by decide +kernel
theorem dX12_setAging_19 : decode cX12_setAging 19 = .ok (.getfield 25, 3) := by decide +kernel
theorem dX12_setAging_22 : decode cX12_setAging 22 = .ok (.aload_n 0, 1) := by decide +kernel
theorem dX12_setAging_23 : decode cX12_setAging 23 = .ok (.getfield 10, 3) := by decide +kernel
theorem dX12_setAging_26 : decode cX12_setAging 26 = .ok (.invokevirtual 102, 3) := by decide +kernel
theorem dX12_setAging_29 : decode cX12_setAging 29 = .ok (.aload_n 0, 1) := by decide +kernel
theorem dX12_setAging_30 : decode cX12_setAging 30 = .ok (.getfield 10, 3) := by decide +kernel
theorem dX12_setAging_33 : decode cX12_setAging 33 = .ok (.getfield 185, 3) := by decide +kernel
theorem dX12_setAging_36 : decode cX12_setAging 36 = .ok (.iload_n 1, 1) := by decide +kernel
theorem dX12_setAging_37 : decode cX12_setAging 37 = .ok (.putfield 197, 3) := by decide +kernel
theorem dX12_setAging_40 : decode cX12_setAging 40 = .ok (.iload_n 2, 1) := by decide +kernel
theorem dX12_setAging_41 : decode cX12_setAging 41 = .ok (.ireturn, 1) := by decide +kernel
theorem dX12_undo_0 : decode cX12_undo 0 = .ok (.aload_n 0, 1) := by decide +kernel
theorem dX12_undo_1 : decode cX12_undo 1 = .ok (.getfield 25, 3) := by decide +kernel
theorem dX12_undo_4 : decode cX12_undo 4 = .ok (.getfield 332, 3) := by decide +kernel
theorem dX12_undo_7 : decode cX12_undo 7 = .ok (.ifCond .ne 14, 3) := by decide +kernel
theorem dX12_undo_10 : decode cX12_undo 10 = .ok (.new 335, 3) := by decide +kernel
theorem dX12_undo_13 : decode cX12_undo 13 = .ok (.dup, 1) := by decide +kernel
theorem dX12_undo_14 : decode cX12_undo 14 = .ok (.ldc_w 337, 3) := by decide +kernel
theorem dX12_undo_17 : decode cX12_undo 17 = .ok (.invokespecial 339, 3) := by decide +kernel
theorem dX12_undo_20 : decode cX12_undo 20 = .ok (.athrow, 1) := by decide +kernel
theorem dX12_undo_21 : decode cX12_undo 21 = .ok (.aload_n 0, 1) := by decide +kernel
theorem dX12_undo_22 : decode cX12_undo 22 = .ok (.getfield 25, 3) := by decide +kernel
theorem dX12_undo_25 : decode cX12_undo 25 = .ok (.aload_n 0, 1) := by decide +kernel
theorem dX12_undo_26 : decode cX12_undo 26 = .ok (.getfield 10, 3) := by decide +kernel
theorem dX12_undo_29 : decode cX12_undo 29 = .ok (.invokevirtual 340, 3) := by decide +kernel
theorem dX12_undo_32 : decode cX12_undo 32 = .ok (.aload_n 0, 1) := by decide +kernel
theorem dX12_undo_33 : decode cX12_undo 33 = .ok (.getfield 25, 3) := by decide +kernel
theorem dX12_undo_36 : decode cX12_undo 36 = .ok (.getfield 332, 3) := by decide +kernel
theorem dX12_undo_39 : decode cX12_undo 39 = .ok (.ireturn, 1) := by decide +kernel
theorem dX12_writeTree_0 : decode cX12_writeTree 0 = .ok (.aload_n 0, 1) := by decide +kernel
theorem dX12_writeTree_1 : decode cX12_writeTree 1 = .ok (.iload_n 1, 1) := by decide +kernel
theorem dX12_writeTree_2 : decode cX12_writeTree 2 = .ok (.invokevirtual 119, 3) := by decide +kernel
theorem dX12_writeTree_5 : decode cX12_writeTree 5 = .ok (.astore_n 2, 1) := by decide +kernel
theorem dX12_writeTree_6 : decode cX12_writeTree 6 = .ok (.aload_n 0, 1) := by decide +kernel
theorem dX12_writeTree_7 : decode cX12_writeTree 7 = .ok (.getfield 55, 3) := by decide +kernel
theorem dX12_writeTree_10 : decode cX12_writeTree 10 = .ok (.iconst 0, 1) := by decide +kernel
theorem dX12_writeTree_11 : decode cX12_writeTree 11 = .ok (.invokevirtual 343, 3) := by decide +kernel
theorem dX12_writeTree_14 : decode cX12_writeTree 14 = .ok (.aload_n 0, 1) := by decide +kernel
theorem dX12_writeTree_15 : decode cX12_writeTree 15 = .ok (.getfield 10, 3) := by decide +kernel
theorem dX12_writeTree_18 : decode cX12_writeTree 18 = .ok (.aload_n 2, 1) := by decide +kernel
theorem dX12_writeTree_19 : decode cX12_writeTree 19 = .ok (.aload_n 0, 1) := by decide +kernel
theorem dX12_writeTree_20 : decode cX12_writeTree 20 = .ok (.getfield 55, 3) := by decide +kernel
theorem dX12_writeTree_23 : decode cX12_writeTree 23 = .ok (.iconst 0, 1) := by decide +kernel
theorem dX12_writeTree_24 : decode cX12_writeTree 24 = .ok (.invokestatic 346, 3) := by decide +kernel
theorem dX12_writeTree_27 : decode cX12_writeTree 27 = .ok (.aload_n 0, 1) := by decide +kernel
theorem dX12_writeTree_28 : decode cX12_writeTree 28 = .ok (.getfield 55, 3) := by decide +kernel
theorem dX12_writeTree_31 : decode cX12_writeTree 31 = .ok (.invokevirtual 350, 3) := by decide +kernel
theorem dX12_writeTree_34 : decode cX12_writeTree 34 = .ok (.ireturn, 1) := by decide +kernel
theorem dX12_outputByte_0 : decode cX12_outputByte 0 = .ok (.iload_n 1, 1) := by decide +kernel
theorem dX12_outputByte_1 : decode cX12_outputByte 1 = .ok (.ifCond .lt 14, 3) := by decide +kernel
theorem dX12_outputByte_4 : decode cX12_outputByte 4 = .ok (.iload_n 1, 1) := by decide +kernel
theorem dX12_outputByte_5 : decode cX12_outputByte 5 = .ok (.aload_n 0, 1) := by decide +kernel
theorem dX12_outputByte_6 : decode cX12_outputByte 6 = .ok (.getfield 55, 3) := by decide +kernel
theorem dX12_outputByte_9 : decode cX12_outputByte 9 = .ok (.invokevirtual 350, 3) := by decide +kernel
theorem dX12_outputByte_12 : decode cX12_outputByte 12 = .ok (.if_icmp .lt 5, 3) := by decide +kernel
theorem dX12_outputByte_15 : decode cX12_outputByte 15 = .ok (.iconst (-1), 1) := by decide +kernel
theorem dX12_outputByte_16 : decode cX12_outputByte 16 = .ok (.ireturn, 1) := by decide +kernel
theorem dX12_outputByte_17 : decode cX12_outputByte 17 = .ok (.aload_n 0, 1) := by decide +kernel
theorem dX12_outputByte_18 : decode cX12_outputByte 18 = .ok (.getfield 55, 3) := by decide +kernel
theorem dX12_outputByte_21 : decode cX12_outputByte 21 = .ok (.iload_n 1, 1) := by decide +kernel
theorem dX12_outputByte_22 : decode cX12_outputByte 22 = .ok (.invokevirtual 352, 3) := by decide +kernel
theorem dX12_outputByte_25 : decode cX12_outputByte 25 = .ok (.ireturn, 1) := by decide +kernel
theorem dX12_saveState_0 : decode cX12_saveState 0 = .ok (.aload_n 0, 1) := by decide +kernel
theorem dX12_saveState_1 : decode cX12_saveState 1 = .ok (.getfield 16, 3) := by decide +kernel
theorem dX12_saveState_4 : decode cX12_saveState 4 = .ok (.aload_n 0, 1) := by decide +kernel
theorem dX12_saveState_5 : decode cX12_saveState 5 = .ok (.getfield 10, 3) := by decide +kernel
theorem dX12_saveState_8 : decode cX12_saveState 8 = .ok (.invokevirtual 356, 3) := by decide +kernel
theorem dX12_saveState_11 : decode cX12_saveState 11 = .ok (.aload_n 0, 1) := by decide +kernel
theorem dX12_saveState_12 : decode cX12_saveState 12 = .ok (.iconst 1, 1) := by decide +kernel
theorem dX12_saveState_13 : decode cX12_saveState 13 = .ok (.putfield 359, 3) := by decide +kernel
theorem dX12_saveState_16 : decode cX12_saveState 16 = .ok (.aload_n 0, 1) := by decide +kernel
theorem dX12_saveState_17 : decode cX12_saveState 17 = .ok (.getfield 10, 3) := by decide +kernel
theorem dX12_saveState_20 : decode cX12_saveState 20 = .ok (.invokevirtual 362, 3) := by decide +kernel
theorem dX12_saveState_23 : decode cX12_saveState 23 = .ok (.ireturn, 1) := by decide +kernel
theorem dX12_restoreState_0 : decode cX12_restoreState 0 = .ok (.aload_n 0, 1) := by decide +kernel
theorem dX12_restoreState_1 : decode cX12_restoreState 1 = .ok (.getfield 359, 3) := by decide +kernel
theorem dX12_restoreState_4 : decode cX12_restoreState 4 = .ok (.ifCond .ne 14, 3) := by decide +kernel
theorem dX12_restoreState_7 : decode cX12_restoreState 7 = .ok (.new 335, 3) := by decide +kernel
theorem dX12_restoreState_10 : decode cX12_restoreState 10 = .ok (.dup, 1) := by decide +kernel
theorem dX12_restoreState_11 : decode cX12_restoreState 11 = .ok (.ldc_w 365, 3) := by decide +kernel
theorem dX12_restoreState_14 : decode cX12_restoreState 14 = .ok (.invokespecial 339, 3) := by decide +kernel
theorem dX12_restoreState_17 : decode cX12_restoreState 17 = .ok (.athrow, 1) := by decide +kernel
theorem dX12_restoreState_18 : decode cX12_restoreState 18 = .ok (.aload_n 0, 1) := by decide +kernel
theorem dX12_restoreState_19 : decode cX12_restoreState 19 = .ok (.getfield 10, 3) := by decide +kernel
theorem dX12_restoreState_22 : decode cX12_restoreState 22 = .ok (.aload_n 0, 1) := by decide +kernel
theorem dX12_restoreState_23 : decode cX12_restoreState 23 = .ok (.getfield 16, 3) := by decide +kernel
theorem dX12_restoreState_26 : decode cX12_restoreState 26 = .ok (.invokevirtual 356, 3) := by decide +kernel
theorem dX12_restoreState_29 : decode cX12_restoreState 29 = .ok (.aload_n 0, 1) := by decide +kernel
theorem dX12_restoreState_30 : decode cX12_restoreState 30 = .ok (.getfield 25, 3) := by decide +kernel
theorem dX12_restoreState_33 : decode cX12_restoreState 33 = .ok (.invokevirtual 367, 3) := by decide +kernel
theorem dX12_restoreState_36 : decode cX12_restoreState 36 = .ok (.aload_n 0, 1) := by decide +kernel
theorem dX12_restoreState_37 : decode cX12_restoreState 37 = .ok (.getfield 10, 3) := by decide +kernel
theorem dX12_restoreState_40 : decode cX12_restoreState 40 = .ok (.invokevirtual 362, 3) := by decide +kernel
theorem dX12_restoreState_43 : decode cX12_restoreState 43 = .ok (.ireturn, 1) := by decide +kernel
theorem dX12_loadInput_0 : decode cX12_loadInput 0 = .ok (.aload_n 0, 1) := by decide +kernel
theorem dX12_loadInput_1 : decode cX12_loadInput 1 = .ok (.getfield 41, 3) := by decide +kernel
theorem dX12_loadInput_4 : decode cX12_loadInput 4 = .ok (.invokevirtual 370, 3) := by decide +kernel
theorem dX12_loadInput_7 : decode cX12_loadInput 7 = .ok (.istore_n 1, 1) := by decide +kernel
theorem dX12_loadInput_8 : decode cX12_loadInput 8 = .ok (.aload_n 0, 1) := by decide +kernel
theorem dX12_loadInput_9 : decode cX12_loadInput 9 = .ok (.getfield 32, 3) := by decide +kernel
theorem dX12_loadInput_12 : decode cX12_loadInput 12 = .ok (.iconst 0, 1) := by decide +kernel
theorem dX12_loadInput_13 : decode cX12_loadInput 13 = .ok (.putfield 89, 3) := by decide +kernel
theorem dX12_loadInput_16 : decode cX12_loadInput 16 = .ok (.iload_n 1, 1) := by decide +kernel
theorem dX12_loadInput_17 : decode cX12_loadInput 17 = .ok (.ifCond .eq 26, 3) := by decide +kernel
theorem dX12_loadInput_20 : decode cX12_loadInput 20 = .ok (.aload_n 0, 1) := by decide +kernel
theorem dX12_loadInput_21 : decode cX12_loadInput 21 = .ok (.getfield 10, 3) := by decide +kernel
theorem dX12_loadInput_24 : decode cX12_loadInput 24 = .ok (.aload_n 0, 1) := by decide +kernel
theorem dX12_loadInput_25 : decode cX12_loadInput 25 = .ok (.getfield 19, 3) := by decide +kernel
theorem dX12_loadInput_28 : decode cX12_loadInput 28 = .ok (.invokevirtual 356, 3) := by decide +kernel
theorem dX12_loadInput_31 : decode cX12_loadInput 31 = .ok (.aload_n 0, 1) := by decide +kernel
theorem dX12_loadInput_32 : decode cX12_loadInput 32 = .ok (.getfield 25, 3) := by decide +kernel
theorem dX12_loadInput_35 : decode cX12_loadInput 35 = .ok (.invokevirtual 367, 3) := by decide +kernel
theorem dX12_loadInput_38 : decode cX12_loadInput 38 = .ok (.aload_n 0, 1) := by decide +kernel
theorem dX12_loadInput_39 : decode cX12_loadInput 39 = .ok (.iconst 0, 1) := by decide +kernel
theorem dX12_loadInput_40 : decode cX12_loadInput 40 = .ok (.putfield 359, 3) := by decide +kernel
theorem dX12_loadInput_43 : decode cX12_loadInput 43 = .ok (.iload_n 1, 1) := by decide +kernel
theorem dX12_loadInput_44 : decode cX12_loadInput 44 = .ok (.ireturn, 1) := by decide +kernel
theorem dX12_knownCrate_0 : decode cX12_knownCrate 0 = .ok (.aload_n 0, 1) := by decide +kernel
theorem dX12_knownCrate_1 : decode cX12_knownCrate 1 = .ok (.getfield 10, 3) := by decide +kernel
theorem dX12_knownCrate_4 : decode cX12_knownCrate 4 = .ok (.iload_n 1, 1) := by decide +kernel
theorem dX12_knownCrate_5 : decode cX12_knownCrate 5 = .ok (.invokevirtual 371, 3) := by decide +kernel
theorem dX12_knownCrate_8 : decode cX12_knownCrate 8 = .ok (.astore_n 2, 1) := by decide +kernel
theorem dX12_knownCrate_9 : decode cX12_knownCrate 9 = .ok (.aload_n 2, 1) := by decide +kernel
theorem dX12_knownCrate_10 : decode cX12_knownCrate 10 = .ok (.ifnonnull 14, 3) := by decide +kernel
theorem dX12_knownCrate_13 : decode cX12_knownCrate 13 = .ok (.new 374, 3) := by decide +kernel
theorem dX12_knownCrate_16 : decode cX12_knownCrate 16 = .ok (.dup, 1) := by decide +kernel
theorem dX12_knownCrate_17 : decode cX12_knownCrate 17 = .ok (.ldc_w 376, 3) := by decide +kernel
theorem dX12_knownCrate_20 : decode cX12_knownCrate 20 = .ok (.invokespecial 378, 3) := by decide +kernel
theorem dX12_knownCrate_23 : decode cX12_knownCrate 23 = .ok (.athrow, 1) := by decide +kernel
theorem dX12_knownCrate_24 : decode cX12_knownCrate 24 = .ok (.aload_n 2, 1) := by decide +kernel
theorem dX12_knownCrate_25 : decode cX12_knownCrate 25 = .ok (.areturn, 1) := by decide +kernel
theorem dX12_weighedCrate_0 : decode cX12_weighedCrate 0 = .ok (.aload_n 0, 1) := by decide +kernel
theorem dX12_weighedCrate_1 : decode cX12_weighedCrate 1 = .ok (.iload_n 1, 1) := by decide +kernel
theorem dX12_weighedCrate_2 : decode cX12_weighedCrate 2 = .ok (.invokevirtual 119, 3) := by decide +kernel
theorem dX12_weighedCrate_5 : decode cX12_weighedCrate 5 = .ok (.astore_n 2, 1) := by decide +kernel
theorem dX12_weighedCrate_6 : decode cX12_weighedCrate 6 = .ok (.aload_n 2, 1) := by decide +kernel
theorem dX12_weighedCrate_7 : decode cX12_weighedCrate 7 = .ok (.getfield 166, 3) := by decide +kernel
theorem dX12_weighedCrate_10 : decode cX12_weighedCrate 10 = .ok (.ifCond .ne 14, 3) := by decide +kernel
theorem dX12_weighedCrate_13 : decode cX12_weighedCrate 13 = .ok (.new 335, 3) := by decide +kernel
theorem dX12_weighedCrate_16 : decode cX12_weighedCrate 16 = .ok (.dup, 1) := by decide +kernel
theorem dX12_weighedCrate_17 : decode cX12_weighedCrate 17 = .ok (.ldc_w 379, 3) := by decide +kernel
theorem dX12_weighedCrate_20 : decode cX12_weighedCrate 20 = .ok (.invokespecial 339, 3) := by decide +kernel
theorem dX12_weighedCrate_23 : decode cX12_weighedCrate 23 = .ok (.athrow, 1) := by decide +kernel
theorem dX12_weighedCrate_24 : decode cX12_weighedCrate 24 = .ok (.aload_n 2, 1) := by decide +kernel
theorem dX12_weighedCrate_25 : decode cX12_weighedCrate 25 = .ok (.areturn, 1) := by decide +kernel
theorem dX12_knownBuyer_0 : decode cX12_knownBuyer 0 = .ok (.aload_n 0, 1) := by decide +kernel
theorem dX12_knownBuyer_1 : decode cX12_knownBuyer 1 = .ok (.getfield 10, 3) := by decide +kernel
theorem dX12_knownBuyer_4 : decode cX12_knownBuyer 4 = .ok (.iload_n 1, 1) := by decide +kernel
theorem dX12_knownBuyer_5 : decode cX12_knownBuyer 5 = .ok (.invokevirtual 381, 3) := by decide +kernel
theorem dX12_knownBuyer_8 : decode cX12_knownBuyer 8 = .ok (.astore_n 2, 1) := by decide +kernel
theorem dX12_knownBuyer_9 : decode cX12_knownBuyer 9 = .ok (.aload_n 2, 1) := by decide +kernel
theorem dX12_knownBuyer_10 : decode cX12_knownBuyer 10 = .ok (.ifnonnull 14, 3) := by decide +kernel
theorem dX12_knownBuyer_13 : decode cX12_knownBuyer 13 = .ok (.new 374, 3) := by decide +kernel
theorem dX12_knownBuyer_16 : decode cX12_knownBuyer 16 = .ok (.dup, 1) := by decide +kernel
theorem dX12_knownBuyer_17 : decode cX12_knownBuyer 17 = .ok (.ldc_w 384, 3) := by decide +kernel
theorem dX12_knownBuyer_20 : decode cX12_knownBuyer 20 = .ok (.invokespecial 378, 3) := by decide +kernel
theorem dX12_knownBuyer_23 : decode cX12_knownBuyer 23 = .ok (.athrow, 1) := by decide +kernel
theorem dX12_knownBuyer_24 : decode cX12_knownBuyer 24 = .ok (.aload_n 2, 1) := by decide +kernel
theorem dX12_knownBuyer_25 : decode cX12_knownBuyer 25 = .ok (.areturn, 1) := by decide +kernel
theorem dX12_requireRange_0 : decode cX12_requireRange 0 = .ok (.iload_n 0, 1) := by decide +kernel
theorem dX12_requireRange_1 : decode cX12_requireRange 1 = .ok (.iload_n 1, 1) := by decide +kernel
theorem dX12_requireRange_2 : decode cX12_requireRange 2 = .ok (.if_icmp .lt 8, 3) := by decide +kernel
theorem dX12_requireRange_5 : decode cX12_requireRange 5 = .ok (.iload_n 0, 1) := by decide +kernel
theorem dX12_requireRange_6 : decode cX12_requireRange 6 = .ok (.iload_n 2, 1) := by decide +kernel
theorem dX12_requireRange_7 : decode cX12_requireRange 7 = .ok (.if_icmp .le 14, 3) := by decide +kernel
theorem dX12_requireRange_10 : decode cX12_requireRange 10 = .ok (.new 386, 3) := by decide +kernel
theorem dX12_requireRange_13 : decode cX12_requireRange 13 = .ok (.dup, 1) := by decide +kernel
theorem dX12_requireRange_14 : decode cX12_requireRange 14 = .ok (.ldc_w 388, 3) := by decide +kernel
theorem dX12_requireRange_17 : decode cX12_requireRange 17 = .ok (.invokespecial 390, 3) := by decide +kernel
theorem dX12_requireRange_20 : decode cX12_requireRange 20 = .ok (.athrow, 1) := by decide +kernel
theorem dX12_requireRange_21 : decode cX12_requireRange 21 = .ok (.return_, 1) := by decide +kernel
theorem dX12_requireState_0 : decode cX12_requireState 0 = .ok (.iload_n 0, 1) := by decide +kernel
theorem dX12_requireState_1 : decode cX12_requireState 1 = .ok (.ifCond .ne 14, 3) := by decide +kernel
theorem dX12_requireState_4 : decode cX12_requireState 4 = .ok (.new 317, 3) := by decide +kernel
theorem dX12_requireState_7 : decode cX12_requireState 7 = .ok (.dup, 1) := by decide +kernel
theorem dX12_requireState_8 : decode cX12_requireState 8 = .ok (.ldc_w 391, 3) := by decide +kernel
theorem dX12_requireState_11 : decode cX12_requireState 11 = .ok (.invokespecial 321, 3) := by decide +kernel
theorem dX12_requireState_14 : decode cX12_requireState 14 = .ok (.athrow, 1) := by decide +kernel
theorem dX12_requireState_15 : decode cX12_requireState 15 = .ok (.return_, 1) := by decide +kernel
theorem dX12_startTrial_0 : decode cX12_startTrial 0 = .ok (.aload_n 0, 1) := by decide +kernel
theorem dX12_startTrial_1 : decode cX12_startTrial 1 = .ok (.getfield 64, 3) := by decide +kernel
theorem dX12_startTrial_4 : decode cX12_startTrial 4 = .ok (.aload_n 1, 1) := by decide +kernel
theorem dX12_startTrial_5 : decode cX12_startTrial 5 = .ok (.invokevirtual 393, 3) := by decide +kernel
theorem dX12_startTrial_8 : decode cX12_startTrial 8 = .ok (.aload_n 0, 1) := by decide +kernel
theorem dX12_startTrial_9 : decode cX12_startTrial 9 = .ok (.getfield 71, 3) := by decide +kernel
theorem dX12_startTrial_12 : decode cX12_startTrial 12 = .ok (.aload_n 0, 1) := by decide +kernel
theorem dX12_startTrial_13 : decode cX12_startTrial 13 = .ok (.getfield 10, 3) := by decide +kernel
theorem dX12_startTrial_16 : decode cX12_startTrial 16 = .ok (.getfield 185, 3) := by decide +kernel
theorem dX12_startTrial_19 : decode cX12_startTrial 19 = .ok (.invokevirtual 395, 3) := by decide +kernel
theorem dX12_startTrial_22 : decode cX12_startTrial 22 = .ok (.return_, 1) := by decide +kernel
theorem dX12_writeCrate_0 : decode cX12_writeCrate 0 = .ok (.iconst 0, 1) := by decide +kernel
theorem dX12_writeCrate_1 : decode cX12_writeCrate 1 = .ok (.istore 4, 2) := by decide +kernel
theorem dX12_writeCrate_3 : decode cX12_writeCrate 3 = .ok (.iload 4, 2) := by decide +kernel
theorem dX12_writeCrate_5 : decode cX12_writeCrate 5 = .ok (.bipush 6, 2) := by decide +kernel
theorem dX12_writeCrate_7 : decode cX12_writeCrate 7 = .ok (.if_icmp .ge 34, 3) := by decide +kernel
theorem dX12_writeCrate_10 : decode cX12_writeCrate 10 = .ok (.aload_n 1, 1) := by decide +kernel
theorem dX12_writeCrate_11 : decode cX12_writeCrate 11 = .ok (.getfield 123, 3) := by decide +kernel
theorem dX12_writeCrate_14 : decode cX12_writeCrate 14 = .ok (.iload 4, 2) := by decide +kernel
theorem dX12_writeCrate_16 : decode cX12_writeCrate 16 = .ok (.invokestatic 126, 3) := by decide +kernel
theorem dX12_writeCrate_19 : decode cX12_writeCrate 19 = .ok (.istore 5, 2) := by decide +kernel
theorem dX12_writeCrate_21 : decode cX12_writeCrate 21 = .ok (.iload 5, 2) := by decide +kernel
theorem dX12_writeCrate_23 : decode cX12_writeCrate 23 = .ok (.iconst (-1), 1) := by decide +kernel
theorem dX12_writeCrate_24 : decode cX12_writeCrate 24 = .ok (.if_icmp .eq 11, 3) := by decide +kernel
theorem dX12_writeCrate_27 : decode cX12_writeCrate 27 = .ok (.aload_n 2, 1) := by decide +kernel
theorem dX12_writeCrate_28 : decode cX12_writeCrate 28 = .ok (.iload 5, 2) := by decide +kernel
theorem dX12_writeCrate_30 : decode cX12_writeCrate 30 = .ok (.i2c, 1) := by decide +kernel
theorem dX12_writeCrate_31 : decode cX12_writeCrate 31 = .ok (.invokevirtual 398, 3) := by decide +kernel
theorem dX12_writeCrate_34 : decode cX12_writeCrate 34 = .ok (.pop, 1) := by decide +kernel
theorem dX12_writeCrate_35 : decode cX12_writeCrate 35 = .ok (.iinc 4 1, 3) := by decide +kernel
theorem dX12_writeCrate_38 : decode cX12_writeCrate 38 = .ok (.goto (-35), 3) := by decide +kernel
theorem dX12_writeCrate_41 : decode cX12_writeCrate 41 = .ok (.aload_n 2, 1) := by decide +kernel
theorem dX12_writeCrate_42 : decode cX12_writeCrate 42 = .ok (.bipush 58, 2) := by decide +kernel
theorem dX12_writeCrate_44 : decode cX12_writeCrate 44 = .ok (.invokevirtual 398, 3) := by decide +kernel
theorem dX12_writeCrate_47 : decode cX12_writeCrate 47 = .ok (.pop, 1) := by decide +kernel
theorem dX12_writeCrate_48 : decode cX12_writeCrate 48 = .ok (.aload_n 2, 1) := by decide +kernel
theorem dX12_writeCrate_49 : decode cX12_writeCrate 49 = .ok (.aload_n 1, 1) := by decide +kernel
theorem dX12_writeCrate_50 : decode cX12_writeCrate 50 = .ok (.getfield 143, 3) := by decide +kernel
theorem dX12_writeCrate_53 : decode cX12_writeCrate 53 = .ok (.invokevirtual 402, 3) := by decide +kernel
theorem dX12_writeCrate_56 : decode cX12_writeCrate 56 = .ok (.pop, 1) := by decide +kernel
theorem dX12_writeCrate_57 : decode cX12_writeCrate 57 = .ok (.aload_n 0, 1) := by decide +kernel
theorem dX12_writeCrate_58 : decode cX12_writeCrate 58 = .ok (.aload_n 1, 1) := by decide +kernel
theorem dX12_writeCrate_59 : decode cX12_writeCrate 59 = .ok (.invokevirtual 152, 3) := by decide +kernel
theorem dX12_writeCrate_62 : decode cX12_writeCrate 62 = .ok (.astore 4, 2) := by decide +kernel
theorem dX12_writeCrate_64 : decode cX12_writeCrate 64 = .ok (.aload 4, 2) := by decide +kernel
theorem dX12_writeCrate_66 : decode cX12_writeCrate 66 = .ok (.ifnull 8, 3) := by decide +kernel
theorem dX12_writeCrate_69 : decode cX12_writeCrate 69 = .ok (.iload_n 3, 1) := by decide +kernel
theorem dX12_writeCrate_70 : decode cX12_writeCrate 70 = .ok (.iconst 5, 1) := by decide +kernel
theorem dX12_writeCrate_71 : decode cX12_writeCrate 71 = .ok (.if_icmp .lt 4, 3) := by decide +kernel
theorem dX12_writeCrate_74 : decode cX12_writeCrate 74 = .ok (.return_, 1) := by decide +kernel
theorem dX12_writeCrate_75 : decode cX12_writeCrate 75 = .ok (.bipush 91, 2) := by decide +kernel
theorem dX12_writeCrate_77 : decode cX12_writeCrate 77 = .ok (.istore 5, 2) := by decide +kernel
theorem dX12_writeCrate_79 : decode cX12_writeCrate 79 = .ok (.aload 4, 2) := by decide +kernel
theorem dX12_writeCrate_81 : decode cX12_writeCrate 81 = .ok (.astore 6, 2) := by decide +kernel
theorem dX12_writeCrate_83 : decode cX12_writeCrate 83 = .ok (.aload 6, 2) := by decide +kernel
theorem dX12_writeCrate_85 : decode cX12_writeCrate 85 = .ok (.ifnull 35, 3) := by decide +kernel
theorem dX12_writeCrate_88 : decode cX12_writeCrate 88 = .ok (.aload_n 2, 1) := by decide +kernel
theorem dX12_writeCrate_89 : decode cX12_writeCrate 89 = .ok (.iload 5, 2) := by decide +kernel
theorem dX12_writeCrate_91 : decode cX12_writeCrate 91 = .ok (.invokevirtual 398, 3) := by decide +kernel
theorem dX12_writeCrate_94 : decode cX12_writeCrate 94 = .ok (.pop, 1) := by decide +kernel
theorem dX12_writeCrate_95 : decode cX12_writeCrate 95 = .ok (.aload_n 0, 1) := by decide +kernel
theorem dX12_writeCrate_96 : decode cX12_writeCrate 96 = .ok (.aload 6, 2) := by decide +kernel
theorem dX12_writeCrate_98 : decode cX12_writeCrate 98 = .ok (.aload_n 2, 1) := by decide +kernel
theorem dX12_writeCrate_99 : decode cX12_writeCrate 99 = .ok (.iload_n 3, 1) := by decide +kernel
theorem dX12_writeCrate_100 : decode cX12_writeCrate 100 = .ok (.iconst 1, 1) := by decide +kernel
theorem dX12_writeCrate_101 : decode cX12_writeCrate 101 = .ok (.iadd, 1) := by decide +kernel
theorem dX12_writeCrate_102 : decode cX12_writeCrate 102 = .ok (.invokestatic 346, 3) := by decide +kernel
theorem dX12_writeCrate_105 : decode cX12_writeCrate 105 = .ok (.bipush 44, 2) := by decide +kernel
theorem dX12_writeCrate_107 : decode cX12_writeCrate 107 = .ok (.istore 5, 2) := by decide +kernel
theorem dX12_writeCrate_109 : decode cX12_writeCrate 109 = .ok (.aload_n 0, 1) := by decide +kernel
theorem dX12_writeCrate_110 : decode cX12_writeCrate 110 = .ok (.aload 6, 2) := by decide +kernel
theorem dX12_writeCrate_112 : decode cX12_writeCrate 112 = .ok (.invokevirtual 156, 3) := by decide +kernel
theorem dX12_writeCrate_115 : decode cX12_writeCrate 115 = .ok (.astore 6, 2) := by decide +kernel
theorem dX12_writeCrate_117 : decode cX12_writeCrate 117 = .ok (.goto (-34), 3) := by decide +kernel
theorem dX12_writeCrate_120 : decode cX12_writeCrate 120 = .ok (.aload_n 2, 1) := by decide +kernel
theorem dX12_writeCrate_121 : decode cX12_writeCrate 121 = .ok (.bipush 93, 2) := by decide +kernel
theorem dX12_writeCrate_123 : decode cX12_writeCrate 123 = .ok (.invokevirtual 398, 3) := by decide +kernel
theorem dX12_writeCrate_126 : decode cX12_writeCrate 126 = .ok (.pop, 1) := by decide +kernel
theorem dX12_writeCrate_127 : decode cX12_writeCrate 127 = .ok (.return_, 1) := by decide +kernel
theorem dX12_letterOf_0 : decode cX12_letterOf 0 = .ok (.iload_n 1, 1) := by decide +kernel
theorem dX12_letterOf_1 : decode cX12_letterOf 1 = .ok (.ifCond .lt 9, 3) := by decide +kernel
theorem dX12_letterOf_4 : decode cX12_letterOf 4 = .ok (.iload_n 1, 1) := by decide +kernel
theorem dX12_letterOf_5 : decode cX12_letterOf 5 = .ok (.bipush 6, 2) := by decide +kernel
theorem dX12_letterOf_7 : decode cX12_letterOf 7 = .ok (.if_icmp .lt 5, 3) := by decide +kernel
theorem dX12_letterOf_10 : decode cX12_letterOf 10 = .ok (.iconst (-1), 1) := by decide +kernel
theorem dX12_letterOf_11 : decode cX12_letterOf 11 = .ok (.ireturn, 1) := by decide +kernel
theorem dX12_letterOf_12 : decode cX12_letterOf 12 = .ok (.iload_n 0, 1) := by decide +kernel
theorem dX12_letterOf_13 : decode cX12_letterOf 13 = .ok (.iconst 5, 1) := by decide +kernel
theorem dX12_letterOf_14 : decode cX12_letterOf 14 = .ok (.iload_n 1, 1) := by decide +kernel
theorem dX12_letterOf_15 : decode cX12_letterOf 15 = .ok (.imul, 1) := by decide +kernel
theorem dX12_letterOf_16 : decode cX12_letterOf 16 = .ok (.ishr, 1) := by decide +kernel
theorem dX12_letterOf_17 : decode cX12_letterOf 17 = .ok (.bipush 31, 2) := by decide +kernel
theorem dX12_letterOf_19 : decode cX12_letterOf 19 = .ok (.iand, 1) := by decide +kernel
theorem dX12_letterOf_20 : decode cX12_letterOf 20 = .ok (.istore_n 2, 1) := by decide +kernel
theorem dX12_letterOf_21 : decode cX12_letterOf 21 = .ok (.iload_n 2, 1) := by decide +kernel
theorem dX12_letterOf_22 : decode cX12_letterOf 22 = .ok (.ifCond .ne 7, 3) := by decide +kernel
theorem dX12_letterOf_25 : decode cX12_letterOf 25 = .ok (.iconst (-1), 1) := by decide +kernel
theorem dX12_letterOf_26 : decode cX12_letterOf 26 = .ok (.goto 9, 3) := by decide +kernel
theorem dX12_letterOf_29 : decode cX12_letterOf 29 = .ok (.bipush 97, 2) := by decide +kernel
theorem dX12_letterOf_31 : decode cX12_letterOf 31 = .ok (.iload_n 2, 1) := by decide +kernel
theorem dX12_letterOf_32 : decode cX12_letterOf 32 = .ok (.iadd, 1) := by decide +kernel
theorem dX12_letterOf_33 : decode cX12_letterOf 33 = .ok (.iconst 1, 1) := by decide +kernel
theorem dX12_letterOf_34 : decode cX12_letterOf 34 = .ok (.isub, 1) := by decide +kernel
theorem dX12_letterOf_35 : decode cX12_letterOf 35 = .ok (.ireturn, 1) := by decide +kernel
theorem dX13_init_0 : decode cX13_init 0 = .ok (.aload_n 0, 1) := by decide +kernel
theorem dX13_init_1 : decode cX13_init 1 = .ok (.invokespecial 1, 3) := by decide +kernel
theorem dX13_init_4 : decode cX13_init 4 = .ok (.aload_n 0, 1) := by decide +kernel
theorem dX13_init_5 : decode cX13_init 5 = .ok (.sipush 370, 3) := by decide +kernel
theorem dX13_init_8 : decode cX13_init 8 = .ok (.newarray .int, 2) := by decide +kernel
theorem dX13_init_10 : decode cX13_init 10 = .ok (.putfield 7, 3) := by decide +kernel
theorem dX13_init_13 : decode cX13_init 13 = .ok (.aload_n 0, 1) := by decide +kernel
theorem dX13_init_14 : decode cX13_init 14 = .ok (.sipush 370, 3) := by decide +kernel
theorem dX13_init_17 : decode cX13_init 17 = .ok (.newarray .int, 2) := by decide +kernel
theorem dX13_init_19 : decode cX13_init 19 = .ok (.putfield 13, 3) := by decide +kernel
theorem dX13_init_22 : decode cX13_init 22 = .ok (.aload_n 0, 1) := by decide +kernel
theorem dX13_init_23 : decode cX13_init 23 = .ok (.sipush 370, 3) := by decide +kernel
theorem dX13_init_26 : decode cX13_init 26 = .ok (.newarray .int, 2) := by decide +kernel
theorem dX13_init_28 : decode cX13_init 28 = .ok (.putfield 16, 3) := by decide +kernel
theorem dX13_init_31 : decode cX13_init 31 = .ok (.aload_n 0, 1) := by decide +kernel
theorem dX13_init_32 : decode cX13_init 32 = .ok (.sipush 370, 3) := by decide +kernel
theorem dX13_init_35 : decode cX13_init 35 = .ok (.newarray .int, 2) := by decide +kernel
theorem dX13_init_37 : decode cX13_init 37 = .ok (.putfield 19, 3) := by decide +kernel
theorem dX13_init_40 : decode cX13_init 40 = .ok (.aload_n 0, 1) := by decide +kernel
theorem dX13_init_41 : decode cX13_init 41 = .ok (.sipush 2960, 3) := by decide +kernel
theorem dX13_init_44 : decode cX13_init 44 = .ok (.newarray .int, 2) := by decide +kernel
theorem dX13_init_46 : decode cX13_init 46 = .ok (.putfield 22, 3) := by decide +kernel
theorem dX13_init_49 : decode cX13_init 49 = .ok (.aload_n 0, 1) := by decide +kernel
theorem dX13_init_50 : decode cX13_init 50 = .ok (.sipush 600, 3) := by decide +kernel
theorem dX13_init_53 : decode cX13_init 53 = .ok (.newarray .int, 2) := by decide +kernel
theorem dX13_init_55 : decode cX13_init 55 = .ok (.putfield 25, 3) := by decide +kernel
theorem dX13_init_58 : decode cX13_init 58 = .ok (.aload_n 0, 1) := by decide +kernel
theorem dX13_init_59 : decode cX13_init 59 = .ok (.iconst (-1), 1) := by decide +kernel
theorem dX13_init_60 : decode cX13_init 60 = .ok (.putfield 28, 3) := by decide +kernel
theorem dX13_init_63 : decode cX13_init 63 = .ok (.aload_n 0, 1) := by decide +kernel
theorem dX13_init_64 : decode cX13_init 64 = .ok (.iconst 4, 1) := by decide +kernel
theorem dX13_init_65 : decode cX13_init 65 = .ok (.newarray .int, 2) := by decide +kernel
theorem dX13_init_67 : decode cX13_init 67 = .ok (.putfield 32, 3) := by decide +kernel
theorem dX13_init_70 : decode cX13_init 70 = .ok (.aload_n 0, 1) := by decide +kernel
theorem dX13_init_71 : decode cX13_init 71 = .ok (.bipush 31, 2) := by decide +kernel
theorem dX13_init_73 : decode cX13_init 73 = .ok (.newarray .int, 2) := by decide +kernel
theorem dX13_init_75 : decode cX13_init 75 = .ok (.putfield 35, 3) := by decide +kernel
theorem dX13_init_78 : decode cX13_init 78 = .ok (.aload_n 0, 1) := by decide +kernel
theorem dX13_init_79 : decode cX13_init 79 = .ok (.bipush 62, 2) := by decide +kernel
theorem dX13_init_81 : decode cX13_init 81 = .ok (.newarray .int, 2) := by decide +kernel
theorem dX13_init_83 : decode cX13_init 83 = .ok (.putfield 38, 3) := by decide +kernel
theorem dX13_init_86 : decode cX13_init 86 = .ok (.aload_n 0, 1) := by decide +kernel
theorem dX13_init_87 : decode cX13_init 87 = .ok (.bipush 16, 2) := by decide +kernel
theorem dX13_init_89 : decode cX13_init 89 = .ok (.newarray .int, 2) := by decide +kernel
theorem dX13_init_91 : decode cX13_init 91 = .ok (.putfield 41, 3) := by decide +kernel
theorem dX13_init_94 : decode cX13_init 94 = .ok (.aload_n 0, 1) := by decide +kernel
theorem dX13_init_95 : decode cX13_init 95 = .ok (.sipush 400, 3) := by decide +kernel
theorem dX13_init_98 : decode cX13_init 98 = .ok (.newarray .int, 2) := by decide +kernel
theorem dX13_init_100 : decode cX13_init 100 = .ok (.putfield 44, 3) := by decide +kernel
theorem dX13_init_103 : decode cX13_init 103 = .ok (.aload_n 0, 1) := by decide +kernel
theorem dX13_init_104 : decode cX13_init 104 = .ok (.invokevirtual 47, 3) := by decide +kernel
theorem dX13_init_107 : decode cX13_init 107 = .ok (.aload_n 0, 1) := by decide +kernel
theorem dX13_init_108 : decode cX13_init 108 = .ok (.bipush 97, 2) := by decide +kernel
theorem dX13_init_110 : decode cX13_init 110 = .ok (.bipush 112, 2) := by decide +kernel
theorem dX13_init_112 : decode cX13_init 112 = .ok (.bipush 112, 2) := by decide +kernel
theorem dX13_init_114 : decode cX13_init 114 = .ok (.bipush 108, 2) := by decide +kernel
theorem dX13_init_116 : decode cX13_init 116 = .ok (.bipush 101, 2) := by decide +kernel
theorem dX13_init_118 : decode cX13_init 118 = .ok (.invokevirtual 50, 3) := by decide +kernel
theorem dX13_init_121 : decode cX13_init 121 = .ok (.aload_n 0, 1) := by decide +kernel
theorem dX13_init_122 : decode cX13_init 122 = .ok (.iconst 5, 1) := by decide +kernel
theorem dX13_init_123 : decode cX13_init 123 = .ok (.iconst 3, 1) := by decide +kernel
theorem dX13_init_124 : decode cX13_init 124 = .ok (.bipush 20, 2) := by decide +kernel
theorem dX13_init_126 : decode cX13_init 126 = .ok (.iconst (-1), 1) := by decide +kernel
theorem dX13_init_127 : decode cX13_init 127 = .ok (.invokevirtual 54, 3) := by decide +kernel
theorem dX13_init_130 : decode cX13_init 130 = .ok (.aload_n 0, 1) := by decide +kernel
theorem dX13_init_131 : decode cX13_init 131 = .ok (.bipush 112, 2) := by decide +kernel
theorem dX13_init_133 : decode cX13_init 133 = .ok (.bipush 101, 2) := by decide +kernel
theorem dX13_init_135 : decode cX13_init 135 = .ok (.bipush 97, 2) := by decide +kernel
theorem dX13_init_137 : decode cX13_init 137 = .ok (.bipush 114, 2) := by decide +kernel
theorem dX13_init_139 : decode cX13_init 139 = .ok (.iconst 0, 1) := by decide +kernel
theorem dX13_init_140 : decode cX13_init 140 = .ok (.invokevirtual 50, 3) := by decide +kernel
theorem dX13_init_143 : decode cX13_init 143 = .ok (.aload_n 0, 1) := by decide +kernel
theorem dX13_init_144 : decode cX13_init 144 = .ok (.iconst 4, 1) := by decide +kernel
theorem dX13_init_145 : decode cX13_init 145 = .ok (.iconst 2, 1) := by decide +kernel
theorem dX13_init_146 : decode cX13_init 146 = .ok (.bipush 15, 2) := by decide +kernel
theorem dX13_init_148 : decode cX13_init 148 = .ok (.iconst 0, 1) := by decide +kernel
theorem dX13_init_149 : decode cX13_init 149 = .ok (.invokevirtual 54, 3) := by decide +kernel
theorem dX13_init_152 : decode cX13_init 152 = .ok (.aload_n 0, 1) := by decide +kernel
theorem dX13_init_153 : decode cX13_init 153 = .ok (.bipush 112, 2) := by decide +kernel
theorem dX13_init_155 : decode cX13_init 155 = .ok (.bipush 108, 2) := by decide +kernel
theorem dX13_init_157 : decode cX13_init 157 = .ok (.bipush 117, 2) := by decide +kernel
theorem dX13_init_159 : decode cX13_init 159 = .ok (.bipush 109, 2) := by decide +kernel
theorem dX13_init_161 : decode cX13_init 161 = .ok (.iconst 0, 1) := by decide +kernel
theorem dX13_init_162 : decode cX13_init 162 = .ok (.invokevirtual 50, 3) := by decide +kernel
theorem dX13_init_165 : decode cX13_init 165 = .ok (.aload_n 0, 1) := by decide +kernel
theorem dX13_init_166 : decode cX13_init 166 = .ok (.iconst 4, 1) := by decide +kernel
theorem dX13_init_167 : decode cX13_init 167 = .ok (.iconst 5, 1) := by decide +kernel
theorem dX13_init_168 : decode cX13_init 168 = .ok (.iconst 0, 1) := by decide +kernel
theorem dX13_init_169 : decode cX13_init 169 = .ok (.iconst (-1), 1) := by decide +kernel
theorem dX13_init_170 : decode cX13_init 170 = .ok (.invokevirtual 54, 3) := by decide +kernel
theorem dX13_init_173 : decode cX13_init 173 = .ok (.aload_n 0, 1) := by decide +kernel
theorem dX13_init_174 : decode cX13_init 174 = .ok (.bipush 102, 2) := by decide +kernel
theorem dX13_init_176 : decode cX13_init 176 = .ok (.bipush 105, 2) := by decide +kernel
theorem dX13_init_178 : decode cX13_init 178 = .ok (.bipush 103, 2) := by decide +kernel
theorem dX13_init_180 : decode cX13_init 180 = .ok (.iconst 0, 1) := by decide +kernel
theorem dX13_init_181 : decode cX13_init 181 = .ok (.iconst 0, 1) := by decide +kernel
theorem dX13_init_182 : decode cX13_init 182 = .ok (.invokevirtual 50, 3) := by decide +kernel
theorem dX13_init_185 : decode cX13_init 185 = .ok (.aload_n 0, 1) := by decide +kernel
theorem dX13_init_186 : decode cX13_init 186 = .ok (.iconst 3, 1) := by decide +kernel
theorem dX13_init_187 : decode cX13_init 187 = .ok (.iconst 1, 1) := by decide +kernel
theorem dX13_init_188 : decode cX13_init 188 = .ok (.bipush 9, 2) := by decide +kernel
theorem dX13_init_190 : decode cX13_init 190 = .ok (.iconst 1, 1) := by decide +kernel
theorem dX13_init_191 : decode cX13_init 191 = .ok (.invokevirtual 54, 3) := by decide +kernel
theorem dX13_init_194 : decode cX13_init 194 = .ok (.aload_n 0, 1) := by decide +kernel
theorem dX13_init_195 : decode cX13_init 195 = .ok (.bipush 97, 2) := by decide +kernel
theorem dX13_init_197 : decode cX13_init 197 = .ok (.bipush 109, 2) := by decide +kernel
theorem dX13_init_199 : decode cX13_init 199 = .ok (.bipush 121, 2) := by decide +kernel
theorem dX13_init_201 : decode cX13_init 201 = .ok (.invokevirtual 58, 3) := by decide +kernel
theorem dX13_init_204 : decode cX13_init 204 = .ok (.aload_n 0, 1) := by decide +kernel
theorem dX13_init_205 : decode cX13_init 205 = .ok (.iconst 3, 1) := by decide +kernel
theorem dX13_init_206 : decode cX13_init 206 = .ok (.sipush 200, 3) := by decide +kernel
theorem dX13_init_209 : decode cX13_init 209 = .ok (.iconst 3, 1) := by decide +kernel
theorem dX13_init_210 : decode cX13_init 210 = .ok (.bipush 50, 2) := by decide +kernel
theorem dX13_init_212 : decode cX13_init 212 = .ok (.invokevirtual 62, 3) := by decide +kernel
theorem dX13_init_215 : decode cX13_init 215 = .ok (.aload_n 0, 1) := by decide +kernel
theorem dX13_init_216 : decode cX13_init 216 = .ok (.bipush 98, 2) := by decide +kernel
theorem dX13_init_218 : decode cX13_init 218 = .ok (.bipush 101, 2) := by decide +kernel
theorem dX13_init_220 : decode cX13_init 220 = .ok (.bipush 110, 2) := by decide +kernel
theorem dX13_init_222 : decode cX13_init 222 = .ok (.invokevirtual 58, 3) := by decide +kernel
theorem dX13_init_225 : decode cX13_init 225 = .ok (.aload_n 0, 1) := by decide +kernel
theorem dX13_init_226 : decode cX13_init 226 = .ok (.iconst 3, 1) := by decide +kernel
theorem dX13_init_227 : decode cX13_init 227 = .ok (.bipush 60, 2) := by decide +kernel
theorem dX13_init_229 : decode cX13_init 229 = .ok (.iconst 1, 1) := by decide +kernel
theorem dX13_init_230 : decode cX13_init 230 = .ok (.bipush 80, 2) := by decide +kernel
theorem dX13_init_232 : decode cX13_init 232 = .ok (.invokevirtual 62, 3) := by decide +kernel
theorem dX13_init_235 : decode cX13_init 235 = .ok (.aload_n 0, 1) := by decide +kernel
theorem dX13_init_236 : decode cX13_init 236 = .ok (.getfield 7, 3) := by decide +kernel
theorem dX13_init_239 : decode cX13_init 239 = .ok (.iconst 2, 1) := by decide +kernel
theorem dX13_init_240 : decode cX13_init 240 = .ok (.iconst 4, 1) := by decide +kernel
theorem dX13_init_241 : decode cX13_init 241 = .ok (.iastore, 1) := by decide +kernel
theorem dX13_init_242 : decode cX13_init 242 = .ok (.aload_n 0, 1) := by decide +kernel
theorem dX13_init_243 : decode cX13_init 243 = .ok (.getfield 7, 3) := by decide +kernel
theorem dX13_init_246 : decode cX13_init 246 = .ok (.iconst 3, 1) := by decide +kernel
theorem dX13_init_247 : decode cX13_init 247 = .ok (.bipush 7, 2) := by decide +kernel
theorem dX13_init_249 : decode cX13_init 249 = .ok (.iastore, 1) := by decide +kernel
theorem dX13_init_250 : decode cX13_init 250 = .ok (.aload_n 0, 1) := by decide +kernel
theorem dX13_init_251 : decode cX13_init 251 = .ok (.getfield 7, 3) := by decide +kernel
theorem dX13_init_254 : decode cX13_init 254 = .ok (.iconst 4, 1) := by decide +kernel
theorem dX13_init_255 : decode cX13_init 255 = .ok (.bipush 10, 2) := by decide +kernel
theorem dX13_init_257 : decode cX13_init 257 = .ok (.iastore, 1) := by decide +kernel
theorem dX13_init_258 : decode cX13_init 258 = .ok (.aload_n 0, 1) := by decide +kernel
theorem dX13_init_259 : decode cX13_init 259 = .ok (.getfield 7, 3) := by decide +kernel
theorem dX13_init_262 : decode cX13_init 262 = .ok (.iconst 5, 1) := by decide +kernel
theorem dX13_init_263 : decode cX13_init 263 = .ok (.iconst 2, 1) := by decide +kernel
theorem dX13_init_264 : decode cX13_init 264 = .ok (.iastore, 1) := by decide +kernel
theorem dX13_init_265 : decode cX13_init 265 = .ok (.aload_n 0, 1) := by decide +kernel
theorem dX13_init_266 : decode cX13_init 266 = .ok (.getfield 7, 3) := by decide +kernel
theorem dX13_init_269 : decode cX13_init 269 = .ok (.bipush 6, 2) := by decide +kernel
theorem dX13_init_271 : decode cX13_init 271 = .ok (.bipush 30, 2) := by decide +kernel
theorem dX13_init_273 : decode cX13_init 273 = .ok (.iastore, 1) := by decide +kernel
theorem dX13_init_274 : decode cX13_init 274 = .ok (.aload_n 0, 1) := by decide +kernel
theorem dX13_init_275 : decode cX13_init 275 = .ok (.getfield 7, 3) := by decide +kernel
theorem dX13_init_278 : decode cX13_init 278 = .ok (.bipush 14, 2) := by decide +kernel
theorem dX13_init_280 : decode cX13_init 280 = .ok (.sipush 260, 3) := by decide +kernel
theorem dX13_init_283 : decode cX13_init 283 = .ok (.iastore, 1) := by decide +kernel
theorem dX13_init_284 : decode cX13_init 284 = .ok (.return_, 1) := by decide +kernel
theorem dX13_thrown_0 : decode cX13_thrown 0 = .ok (.aload_n 0, 1) := by decide +kernel
theorem dX13_thrown_1 : decode cX13_thrown 1 = .ok (.getfield 65, 3) := by decide +kernel
theorem dX13_thrown_4 : decode cX13_thrown 4 = .ok (.ireturn, 1) := by decide +kernel
theorem dX13_inRange_0 : decode cX13_inRange 0 = .ok (.iload_n 0, 1) := by decide +kernel
theorem dX13_inRange_1 : decode cX13_inRange 1 = .ok (.iload_n 1, 1) := by decide +kernel
theorem dX13_inRange_2 : decode cX13_inRange 2 = .ok (.if_icmp .lt 12, 3) := by decide +kernel
theorem dX13_inRange_5 : decode cX13_inRange 5 = .ok (.iload_n 0, 1) := by decide +kernel
theorem dX13_inRange_6 : decode cX13_inRange 6 = .ok (.iload_n 2, 1) := by decide +kernel
theorem dX13_inRange_7 : decode cX13_inRange 7 = .ok (.if_icmp .gt 7, 3) := by decide +kernel
theorem dX13_inRange_10 : decode cX13_inRange 10 = .ok (.iconst 1, 1) := by decide +kernel
theorem dX13_inRange_11 : decode cX13_inRange 11 = .ok (.goto 4, 3) := by decide +kernel
theorem dX13_inRange_14 : decode cX13_inRange 14 = .ok (.iconst 0, 1) := by decide +kernel
theorem dX13_inRange_15 : decode cX13_inRange 15 = .ok (.ireturn, 1) := by decide +kernel
theorem dX13_one_0 : decode cX13_one 0 = .ok (.iload_n 0, 1) := by decide +kernel
theorem dX13_one_1 : decode cX13_one 1 = .ok (.ifCond .eq 7, 3) := by decide +kernel
theorem dX13_one_4 : decode cX13_one 4 = .ok (.iconst 1, 1) := by decide +kernel
theorem dX13_one_5 : decode cX13_one 5 = .ok (.goto 4, 3) := by decide +kernel
theorem dX13_one_8 : decode cX13_one 8 = .ok (.iconst 0, 1) := by decide +kernel
theorem dX13_one_9 : decode cX13_one 9 = .ok (.ireturn, 1) := by decide +kernel
theorem dX13_fails_0 : decode cX13_fails 0 = .ok (.iload_n 1, 1) := by decide +kernel
theorem dX13_fails_1 : decode cX13_fails 1 = .ok (.ifCond .eq 8, 3) := by decide +kernel
theorem dX13_fails_4 : decode cX13_fails 4 = .ok (.aload_n 0, 1) := by decide +kernel
theorem dX13_fails_5 : decode cX13_fails 5 = .ok (.iload_n 2, 1) := by decide +kernel
theorem dX13_fails_6 : decode cX13_fails 6 = .ok (.putfield 65, 3) := by decide +kernel
theorem dX13_fails_9 : decode cX13_fails 9 = .ok (.iload_n 1, 1) := by decide +kernel
theorem dX13_fails_10 : decode cX13_fails 10 = .ok (.ireturn, 1) := by decide +kernel
theorem dX13_copies_0 : decode cX13_copies 0 = .ok (.iconst 0, 1) := by decide +kernel
theorem dX13_copies_1 : decode cX13_copies 1 = .ok (.istore 4, 2) := by decide +kernel
theorem dX13_copies_3 : decode cX13_copies 3 = .ok (.iload 4, 2) := by decide +kernel
theorem dX13_copies_5 : decode cX13_copies 5 = .ok (.sipush 370, 3) := by decide +kernel
theorem dX13_copies_8 : decode cX13_copies 8 = .ok (.if_icmp .ge 21, 3) := by decide +kernel
theorem dX13_copies_11 : decode cX13_copies 11 = .ok (.aload_n 2, 1) := by decide +kernel
theorem dX13_copies_12 : decode cX13_copies 12 = .ok (.iload_n 3, 1) := by decide +kernel
theorem dX13_copies_13 : decode cX13_copies 13 = .ok (.iload 4, 2) := by decide +kernel
theorem dX13_copies_15 : decode cX13_copies 15 = .ok (.iadd, 1) := by decide +kernel
theorem dX13_copies_16 : decode cX13_copies 16 = .ok (.aload_n 0, 1) := by decide +kernel
theorem dX13_copies_17 : decode cX13_copies 17 = .ok (.iload_n 1, 1) := by decide +kernel
theorem dX13_copies_18 : decode cX13_copies 18 = .ok (.iload 4, 2) := by decide +kernel
theorem dX13_copies_20 : decode cX13_copies 20 = .ok (.iadd, 1) := by decide +kernel
theorem dX13_copies_21 : decode cX13_copies 21 = .ok (.iaload, 1) := by decide +kernel
theorem dX13_copies_22 : decode cX13_copies 22 = .ok (.iastore, 1) := by decide +kernel
theorem dX13_copies_23 : decode cX13_copies 23 = .ok (.iinc 4 1, 3) := by decide +kernel
theorem dX13_copies_26 : decode cX13_copies 26 = .ok (.goto (-23), 3) := by decide +kernel
theorem dX13_copies_29 : decode cX13_copies 29 = .ok (.return_, 1) := by decide +kernel
theorem dX13_begins_0 : decode cX13_begins 0 = .ok (.iconst 0, 1) := by decide +kernel
theorem dX13_begins_1 : decode cX13_begins 1 = .ok (.istore_n 1, 1) := by decide +kernel
theorem dX13_begins_2 : decode cX13_begins 2 = .ok (.iload_n 1, 1) := by decide +kernel
theorem dX13_begins_3 : decode cX13_begins 3 = .ok (.sipush 370, 3) := by decide +kernel
theorem dX13_begins_6 : decode cX13_begins 6 = .ok (.if_icmp .ge 16, 3) := by decide +kernel
theorem dX13_begins_9 : decode cX13_begins 9 = .ok (.aload_n 0, 1) := by decide +kernel
theorem dX13_begins_10 : decode cX13_begins 10 = .ok (.getfield 7, 3) := by decide +kernel
theorem dX13_begins_13 : decode cX13_begins 13 = .ok (.iload_n 1, 1) := by decide +kernel
theorem dX13_begins_14 : decode cX13_begins 14 = .ok (.iconst 0, 1) := by decide +kernel
theorem dX13_begins_15 : decode cX13_begins 15 = .ok (.iastore, 1) := by decide +kernel
theorem dX13_begins_16 : decode cX13_begins 16 = .ok (.iinc 1 1, 3) := by decide +kernel
theorem dX13_begins_19 : decode cX13_begins 19 = .ok (.goto (-17), 3) := by decide +kernel
theorem dX13_begins_22 : decode cX13_begins 22 = .ok (.aload_n 0, 1) := by decide +kernel
theorem dX13_begins_23 : decode cX13_begins 23 = .ok (.getfield 7, 3) := by decide +kernel
theorem dX13_begins_26 : decode cX13_begins 26 = .ok (.iconst 2, 1) := by decide +kernel
theorem dX13_begins_27 : decode cX13_begins 27 = .ok (.iconst 5, 1) := by decide +kernel
theorem dX13_begins_28 : decode cX13_begins 28 = .ok (.iastore, 1) := by decide +kernel
theorem dX13_begins_29 : decode cX13_begins 29 = .ok (.aload_n 0, 1) := by decide +kernel
theorem dX13_begins_30 : decode cX13_begins 30 = .ok (.getfield 7, 3) := by decide +kernel
theorem dX13_begins_33 : decode cX13_begins 33 = .ok (.iconst 3, 1) := by decide +kernel
theorem dX13_begins_34 : decode cX13_begins 34 = .ok (.iconst 1, 1) := by decide +kernel
theorem dX13_begins_35 : decode cX13_begins 35 = .ok (.iastore, 1) := by decide +kernel
theorem dX13_begins_36 : decode cX13_begins 36 = .ok (.aload_n 0, 1) := by decide +kernel
theorem dX13_begins_37 : decode cX13_begins 37 = .ok (.getfield 7, 3) := by decide +kernel
theorem dX13_begins_40 : decode cX13_begins 40 = .ok (.iconst 4, 1) := by decide +kernel
theorem dX13_begins_41 : decode cX13_begins 41 = .ok (.bipush 50, 2) := by decide +kernel
theorem dX13_begins_43 : decode cX13_begins 43 = .ok (.iastore, 1) := by decide +kernel
theorem dX13_begins_44 : decode cX13_begins 44 = .ok (.aload_n 0, 1) := by decide +kernel
theorem dX13_begins_45 : decode cX13_begins 45 = .ok (.getfield 7, 3) := by decide +kernel
theorem dX13_begins_48 : decode cX13_begins 48 = .ok (.iconst 5, 1) := by decide +kernel
theorem dX13_begins_49 : decode cX13_begins 49 = .ok (.iconst 2, 1) := by decide +kernel
theorem dX13_begins_50 : decode cX13_begins 50 = .ok (.iastore, 1) := by decide +kernel
theorem dX13_begins_51 : decode cX13_begins 51 = .ok (.return_, 1) := by decide +kernel
theorem dX13_of_0 : decode cX13_of 0 = .ok (.aload_n 0, 1) := by decide +kernel
theorem dX13_of_1 : decode cX13_of 1 = .ok (.getfield 7, 3) := by decide +kernel
theorem dX13_of_4 : decode cX13_of 4 = .ok (.bipush 16, 2) := by decide +kernel
theorem dX13_of_6 : decode cX13_of 6 = .ok (.bipush 18, 2) := by decide +kernel
theorem dX13_of_8 : decode cX13_of 8 = .ok (.iload_n 1, 1) := by decide +kernel
theorem dX13_of_9 : decode cX13_of 9 = .ok (.imul, 1) := by decide +kernel
theorem dX13_of_10 : decode cX13_of 10 = .ok (.iadd, 1) := by decide +kernel
theorem dX13_of_11 : decode cX13_of 11 = .ok (.iload_n 2, 1) := by decide +kernel
theorem dX13_of_12 : decode cX13_of 12 = .ok (.iadd, 1) := by decide +kernel
theorem dX13_of_13 : decode cX13_of 13 = .ok (.iaload, 1) := by decide +kernel
theorem dX13_of_14 : decode cX13_of 14 = .ok (.ireturn, 1) := by decide +kernel
theorem dX13_puts_0 : decode cX13_puts 0 = .ok (.aload_n 0, 1) := by decide +kernel
theorem dX13_puts_1 : decode cX13_puts 1 = .ok (.getfield 7, 3) := by decide +kernel
theorem dX13_puts_4 : decode cX13_puts 4 = .ok (.bipush 16, 2) := by decide +kernel
theorem dX13_puts_6 : decode cX13_puts 6 = .ok (.bipush 18, 2) := by decide +kernel
theorem dX13_puts_8 : decode cX13_puts 8 = .ok (.iload_n 1, 1) := by decide +kernel
theorem dX13_puts_9 : decode cX13_puts 9 = .ok (.imul, 1) := by decide +kernel
theorem dX13_puts_10 : decode cX13_puts 10 = .ok (.iadd, 1) := by decide +kernel
theorem dX13_puts_11 : decode cX13_puts 11 = .ok (.iload_n 2, 1) := by decide +kernel
theorem dX13_puts_12 : decode cX13_puts 12 = .ok (.iadd, 1) := by decide +kernel
theorem dX13_puts_13 : decode cX13_puts 13 = .ok (.iload_n 3, 1) := by decide +kernel
theorem dX13_puts_14 : decode cX13_puts 14 = .ok (.iastore, 1) := by decide +kernel
theorem dX13_puts_15 : decode cX13_puts 15 = .ok (.return_, 1) := by decide +kernel
theorem dX13_grows_0 : decode cX13_grows 0 = .ok (.aload_n 0, 1) := by decide +kernel
theorem dX13_grows_1 : decode cX13_grows 1 = .ok (.iload_n 1, 1) := by decide +kernel
theorem dX13_grows_2 : decode cX13_grows 2 = .ok (.iload_n 2, 1) := by decide +kernel
theorem dX13_grows_3 : decode cX13_grows 3 = .ok (.aload_n 0, 1) := by decide +kernel
theorem dX13_grows_4 : decode cX13_grows 4 = .ok (.iload_n 1, 1) := by decide +kernel
theorem dX13_grows_5 : decode cX13_grows 5 = .ok (.iload_n 2, 1) := by decide +kernel
theorem dX13_grows_6 : decode cX13_grows 6 = .ok (.invokevirtual 68, 3) := by decide +kernel
theorem dX13_grows_9 : decode cX13_grows 9 = .ok (.iload_n 3, 1) := by decide +kernel
theorem dX13_grows_10 : decode cX13_grows 10 = .ok (.iadd, 1) := by decide +kernel
theorem dX13_grows_11 : decode cX13_grows 11 = .ok (.invokevirtual 72, 3) := by decide +kernel
theorem dX13_grows_14 : decode cX13_grows 14 = .ok (.return_, 1) := by decide +kernel
theorem dX13_ofBuyer_0 : decode cX13_ofBuyer 0 = .ok (.aload_n 0, 1) := by decide +kernel
theorem dX13_ofBuyer_1 : decode cX13_ofBuyer 1 = .ok (.getfield 7, 3) := by decide +kernel
theorem dX13_ofBuyer_4 : decode cX13_ofBuyer 4 = .ok (.sipush 304, 3) := by decide +kernel
theorem dX13_ofBuyer_7 : decode cX13_ofBuyer 7 = .ok (.bipush 11, 2) := by decide +kernel
theorem dX13_ofBuyer_9 : decode cX13_ofBuyer 9 = .ok (.iload_n 1, 1) := by decide +kernel
theorem dX13_ofBuyer_10 : decode cX13_ofBuyer 10 = .ok (.imul, 1) := by decide +kernel
theorem dX13_ofBuyer_11 : decode cX13_ofBuyer 11 = .ok (.iadd, 1) := by decide +kernel
theorem dX13_ofBuyer_12 : decode cX13_ofBuyer 12 = .ok (.iload_n 2, 1) := by decide +kernel
theorem dX13_ofBuyer_13 : decode cX13_ofBuyer 13 = .ok (.iadd, 1) := by decide +kernel
theorem dX13_ofBuyer_14 : decode cX13_ofBuyer 14 = .ok (.iaload, 1) := by decide +kernel
theorem dX13_ofBuyer_15 : decode cX13_ofBuyer 15 = .ok (.ireturn, 1) := by decide +kernel
theorem dX13_putsBuyer_0 : decode cX13_putsBuyer 0 = .ok (.aload_n 0, 1) := by decide +kernel
theorem dX13_putsBuyer_1 : decode cX13_putsBuyer 1 = .ok (.getfield 7, 3) := by decide +kernel
theorem dX13_putsBuyer_4 : decode cX13_putsBuyer 4 = .ok (.sipush 304, 3) := by decide +kernel
theorem dX13_putsBuyer_7 : decode cX13_putsBuyer 7 = .ok (.bipush 11, 2) := by decide +kernel
theorem dX13_putsBuyer_9 : decode cX13_putsBuyer 9 = .ok (.iload_n 1, 1) := by decide +kernel
theorem dX13_putsBuyer_10 : decode cX13_putsBuyer 10 = .ok (.imul, 1) := by decide +kernel
theorem dX13_putsBuyer_11 : decode cX13_putsBuyer 11 = .ok (.iadd, 1) := by decide +kernel
theorem dX13_putsBuyer_12 : decode cX13_putsBuyer 12 = .ok (.iload_n 2, 1) := by decide +kernel
theorem dX13_putsBuyer_13 : decode cX13_putsBuyer 13 = .ok (.iadd, 1) := by decide +kernel
theorem dX13_putsBuyer_14 : decode cX13_putsBuyer 14 = .ok (.iload_n 3, 1) := by decide +kernel
theorem dX13_putsBuyer_15 : decode cX13_putsBuyer 15 = .ok (.iastore, 1) := by decide +kernel
theorem dX13_putsBuyer_16 : decode cX13_putsBuyer 16 = .ok (.return_, 1) := by decide +kernel
theorem dX13_crateOf_0 : decode cX13_crateOf 0 = .ok (.aload_n 0, 1) := by decide +kernel
theorem dX13_crateOf_1 : decode cX13_crateOf 1 = .ok (.getfield 7, 3) := by decide +kernel
theorem dX13_crateOf_4 : decode cX13_crateOf 4 = .ok (.iconst 0, 1) := by decide +kernel
theorem dX13_crateOf_5 : decode cX13_crateOf 5 = .ok (.iaload, 1) := by decide +kernel
theorem dX13_crateOf_6 : decode cX13_crateOf 6 = .ok (.istore 6, 2) := by decide +kernel
theorem dX13_crateOf_8 : decode cX13_crateOf 8 = .ok (.aload_n 0, 1) := by decide +kernel
theorem dX13_crateOf_9 : decode cX13_crateOf 9 = .ok (.iload 6, 2) := by decide +kernel
theorem dX13_crateOf_11 : decode cX13_crateOf 11 = .ok (.iconst 1, 1) := by decide +kernel
theorem dX13_crateOf_12 : decode cX13_crateOf 12 = .ok (.iload_n 1, 1) := by decide +kernel
theorem dX13_crateOf_13 : decode cX13_crateOf 13 = .ok (.invokevirtual 72, 3) := by decide +kernel
theorem dX13_crateOf_16 : decode cX13_crateOf 16 = .ok (.aload_n 0, 1) := by decide +kernel
theorem dX13_crateOf_17 : decode cX13_crateOf 17 = .ok (.iload 6, 2) := by decide +kernel
theorem dX13_crateOf_19 : decode cX13_crateOf 19 = .ok (.iconst 2, 1) := by decide +kernel
theorem dX13_crateOf_20 : decode cX13_crateOf 20 = .ok (.iload_n 2, 1) := by decide +kernel
theorem dX13_crateOf_21 : decode cX13_crateOf 21 = .ok (.invokevirtual 72, 3) := by decide +kernel
theorem dX13_crateOf_24 : decode cX13_crateOf 24 = .ok (.aload_n 0, 1) := by decide +kernel
theorem dX13_crateOf_25 : decode cX13_crateOf 25 = .ok (.iload 6, 2) := by decide +kernel
theorem dX13_crateOf_27 : decode cX13_crateOf 27 = .ok (.iconst 3, 1) := by decide +kernel
theorem dX13_crateOf_28 : decode cX13_crateOf 28 = .ok (.iload_n 3, 1) := by decide +kernel
theorem dX13_crateOf_29 : decode cX13_crateOf 29 = .ok (.invokevirtual 72, 3) := by decide +kernel
theorem dX13_crateOf_32 : decode cX13_crateOf 32 = .ok (.aload_n 0, 1) := by decide +kernel
theorem dX13_crateOf_33 : decode cX13_crateOf 33 = .ok (.iload 6, 2) := by decide +kernel
theorem dX13_crateOf_35 : decode cX13_crateOf 35 = .ok (.iconst 4, 1) := by decide +kernel
theorem dX13_crateOf_36 : decode cX13_crateOf 36 = .ok (.iload 4, 2) := by decide +kernel
theorem dX13_crateOf_38 : decode cX13_crateOf 38 = .ok (.invokevirtual 72, 3) := by decide +kernel
theorem dX13_crateOf_41 : decode cX13_crateOf 41 = .ok (.aload_n 0, 1) := by decide +kernel
theorem dX13_crateOf_42 : decode cX13_crateOf 42 = .ok (.iload 6, 2) := by decide +kernel
theorem dX13_crateOf_44 : decode cX13_crateOf 44 = .ok (.iconst 5, 1) := by decide +kernel
theorem dX13_crateOf_45 : decode cX13_crateOf 45 = .ok (.iload 5, 2) := by decide +kernel
theorem dX13_crateOf_47 : decode cX13_crateOf 47 = .ok (.invokevirtual 72, 3) := by decide +kernel
theorem dX13_crateOf_50 : decode cX13_crateOf 50 = .ok (.return_, 1) := by decide +kernel
theorem dX13_addsCrate_0 : decode cX13_addsCrate 0 = .ok (.aload_n 0, 1) := by decide +kernel
theorem dX13_addsCrate_1 : decode cX13_addsCrate 1 = .ok (.getfield 7, 3) := by decide +kernel
theorem dX13_addsCrate_4 : decode cX13_addsCrate 4 = .ok (.iconst 0, 1) := by decide +kernel
theorem dX13_addsCrate_5 : decode cX13_addsCrate 5 = .ok (.iaload, 1) := by decide +kernel
theorem dX13_addsCrate_6 : decode cX13_addsCrate 6 = .ok (.istore 5, 2) := by decide +kernel
theorem dX13_addsCrate_8 : decode cX13_addsCrate 8 = .ok (.aload_n 0, 1) := by decide +kernel
theorem dX13_addsCrate_9 : decode cX13_addsCrate 9 = .ok (.iload 5, 2) := by decide +kernel
theorem dX13_addsCrate_11 : decode cX13_addsCrate 11 = .ok (.iconst 0, 1) := by decide +kernel
theorem dX13_addsCrate_12 : decode cX13_addsCrate 12 = .ok (.iload_n 1, 1) := by decide +kernel
theorem dX13_addsCrate_13 : decode cX13_addsCrate 13 = .ok (.invokevirtual 72, 3) := by decide +kernel
theorem dX13_addsCrate_16 : decode cX13_addsCrate 16 = .ok (.aload_n 0, 1) := by decide +kernel
theorem dX13_addsCrate_17 : decode cX13_addsCrate 17 = .ok (.iload 5, 2) := by decide +kernel
theorem dX13_addsCrate_19 : decode cX13_addsCrate 19 = .ok (.bipush 7, 2) := by decide +kernel
theorem dX13_addsCrate_21 : decode cX13_addsCrate 21 = .ok (.iload_n 2, 1) := by decide +kernel
theorem dX13_addsCrate_22 : decode cX13_addsCrate 22 = .ok (.invokevirtual 72, 3) := by decide +kernel
theorem dX13_addsCrate_25 : decode cX13_addsCrate 25 = .ok (.aload_n 0, 1) := by decide +kernel
theorem dX13_addsCrate_26 : decode cX13_addsCrate 26 = .ok (.iload 5, 2) := by decide +kernel
theorem dX13_addsCrate_28 : decode cX13_addsCrate 28 = .ok (.bipush 8, 2) := by decide +kernel
theorem dX13_addsCrate_30 : decode cX13_addsCrate 30 = .ok (.iload_n 3, 1) := by decide +kernel
theorem dX13_addsCrate_31 : decode cX13_addsCrate 31 = .ok (.invokevirtual 72, 3) := by decide +kernel
theorem dX13_addsCrate_34 : decode cX13_addsCrate 34 = .ok (.aload_n 0, 1) := by decide +kernel
theorem dX13_addsCrate_35 : decode cX13_addsCrate 35 = .ok (.iload 5, 2) := by decide +kernel
theorem dX13_addsCrate_37 : decode cX13_addsCrate 37 = .ok (.bipush 9, 2) := by decide +kernel
theorem dX13_addsCrate_39 : decode cX13_addsCrate 39 = .ok (.iload 4, 2) := by decide +kernel
theorem dX13_addsCrate_41 : decode cX13_addsCrate 41 = .ok (.invokevirtual 72, 3) := by decide +kernel
theorem dX13_addsCrate_44 : decode cX13_addsCrate 44 = .ok (.aload_n 0, 1) := by decide +kernel
theorem dX13_addsCrate_45 : decode cX13_addsCrate 45 = .ok (.iload 5, 2) := by decide +kernel
theorem dX13_addsCrate_47 : decode cX13_addsCrate 47 = .ok (.bipush 10, 2) := by decide +kernel
theorem dX13_addsCrate_49 : decode cX13_addsCrate 49 = .ok (.aload_n 0, 1) := by decide +kernel
theorem dX13_addsCrate_50 : decode cX13_addsCrate 50 = .ok (.getfield 7, 3) := by decide +kernel
theorem dX13_addsCrate_53 : decode cX13_addsCrate 53 = .ok (.bipush 15, 2) := by decide +kernel
theorem dX13_addsCrate_55 : decode cX13_addsCrate 55 = .ok (.iaload, 1) := by decide +kernel
theorem dX13_addsCrate_56 : decode cX13_addsCrate 56 = .ok (.invokevirtual 72, 3) := by decide +kernel
theorem dX13_addsCrate_59 : decode cX13_addsCrate 59 = .ok (.aload_n 0, 1) := by decide +kernel
theorem dX13_addsCrate_60 : decode cX13_addsCrate 60 = .ok (.getfield 7, 3) := by decide +kernel
theorem dX13_addsCrate_63 : decode cX13_addsCrate 63 = .ok (.bipush 15, 2) := by decide +kernel
theorem dX13_addsCrate_65 : decode cX13_addsCrate 65 = .ok (.dup2, 1) := by decide +kernel
theorem dX13_addsCrate_66 : decode cX13_addsCrate 66 = .ok (.iaload, 1) := by decide +kernel
theorem dX13_addsCrate_67 : decode cX13_addsCrate 67 = .ok (.iconst 1, 1) := by decide +kernel
theorem dX13_addsCrate_68 : decode cX13_addsCrate 68 = .ok (.iadd, 1) := by decide +kernel
theorem dX13_addsCrate_69 : decode cX13_addsCrate 69 = .ok (.iastore, 1) := by decide +kernel
theorem dX13_addsCrate_70 : decode cX13_addsCrate 70 = .ok (.aload_n 0, 1) := by decide +kernel
theorem dX13_addsCrate_71 : decode cX13_addsCrate 71 = .ok (.getfield 7, 3) := by decide +kernel
theorem dX13_addsCrate_74 : decode cX13_addsCrate 74 = .ok (.iconst 0, 1) := by decide +kernel
theorem dX13_addsCrate_75 : decode cX13_addsCrate 75 = .ok (.dup2, 1) := by decide +kernel
theorem dX13_addsCrate_76 : decode cX13_addsCrate 76 = .ok (.iaload, 1) := by decide +kernel
theorem dX13_addsCrate_77 : decode cX13_addsCrate 77 = .ok (.iconst 1, 1) := by decide +kernel
theorem dX13_addsCrate_78 : decode cX13_addsCrate 78 = .ok (.iadd, 1) := by decide +kernel
theorem dX13_addsCrate_79 : decode cX13_addsCrate 79 = .ok (.iastore, 1) := by decide +kernel
theorem dX13_addsCrate_80 : decode cX13_addsCrate 80 = .ok (.return_, 1) := by decide +kernel
theorem dX13_buyerOf_0 : decode cX13_buyerOf 0 = .ok (.aload_n 0, 1) := by decide +kernel
theorem dX13_buyerOf_1 : decode cX13_buyerOf 1 = .ok (.getfield 7, 3) := by decide +kernel
theorem dX13_buyerOf_4 : decode cX13_buyerOf 4 = .ok (.iconst 1, 1) := by decide +kernel
theorem dX13_buyerOf_5 : decode cX13_buyerOf 5 = .ok (.iaload, 1) := by decide +kernel
theorem dX13_buyerOf_6 : decode cX13_buyerOf 6 = .ok (.istore 4, 2) := by decide +kernel
theorem dX13_buyerOf_8 : decode cX13_buyerOf 8 = .ok (.aload_n 0, 1) := by decide +kernel
theorem dX13_buyerOf_9 : decode cX13_buyerOf 9 = .ok (.iload 4, 2) := by decide +kernel
theorem dX13_buyerOf_11 : decode cX13_buyerOf 11 = .ok (.iconst 1, 1) := by decide +kernel
theorem dX13_buyerOf_12 : decode cX13_buyerOf 12 = .ok (.iload_n 1, 1) := by decide +kernel
theorem dX13_buyerOf_13 : decode cX13_buyerOf 13 = .ok (.invokevirtual 75, 3) := by decide +kernel
theorem dX13_buyerOf_16 : decode cX13_buyerOf 16 = .ok (.aload_n 0, 1) := by decide +kernel
theorem dX13_buyerOf_17 : decode cX13_buyerOf 17 = .ok (.iload 4, 2) := by decide +kernel
theorem dX13_buyerOf_19 : decode cX13_buyerOf 19 = .ok (.iconst 2, 1) := by decide +kernel
theorem dX13_buyerOf_20 : decode cX13_buyerOf 20 = .ok (.iload_n 2, 1) := by decide +kernel
theorem dX13_buyerOf_21 : decode cX13_buyerOf 21 = .ok (.invokevirtual 75, 3) := by decide +kernel
theorem dX13_buyerOf_24 : decode cX13_buyerOf 24 = .ok (.aload_n 0, 1) := by decide +kernel
theorem dX13_buyerOf_25 : decode cX13_buyerOf 25 = .ok (.iload 4, 2) := by decide +kernel
theorem dX13_buyerOf_27 : decode cX13_buyerOf 27 = .ok (.iconst 3, 1) := by decide +kernel
theorem dX13_buyerOf_28 : decode cX13_buyerOf 28 = .ok (.iload_n 3, 1) := by decide +kernel
theorem dX13_buyerOf_29 : decode cX13_buyerOf 29 = .ok (.invokevirtual 75, 3) := by decide +kernel
theorem dX13_buyerOf_32 : decode cX13_buyerOf 32 = .ok (.return_, 1) := by decide +kernel
theorem dX13_addsBuyer_0 : decode cX13_addsBuyer 0 = .ok (.aload_n 0, 1) := by decide +kernel
theorem dX13_addsBuyer_1 : decode cX13_addsBuyer 1 = .ok (.getfield 7, 3) := by decide +kernel
theorem dX13_addsBuyer_4 : decode cX13_addsBuyer 4 = .ok (.iconst 1, 1) := by decide +kernel
theorem dX13_addsBuyer_5 : decode cX13_addsBuyer 5 = .ok (.iaload, 1) := by decide +kernel
theorem dX13_addsBuyer_6 : decode cX13_addsBuyer 6 = .ok (.istore 5, 2) := by decide +kernel
theorem dX13_addsBuyer_8 : decode cX13_addsBuyer 8 = .ok (.aload_n 0, 1) := by decide +kernel
theorem dX13_addsBuyer_9 : decode cX13_addsBuyer 9 = .ok (.iload 5, 2) := by decide +kernel
theorem dX13_addsBuyer_11 : decode cX13_addsBuyer 11 = .ok (.iconst 0, 1) := by decide +kernel
theorem dX13_addsBuyer_12 : decode cX13_addsBuyer 12 = .ok (.iload_n 1, 1) := by decide +kernel
theorem dX13_addsBuyer_13 : decode cX13_addsBuyer 13 = .ok (.invokevirtual 75, 3) := by decide +kernel
theorem dX13_addsBuyer_16 : decode cX13_addsBuyer 16 = .ok (.aload_n 0, 1) := by decide +kernel
theorem dX13_addsBuyer_17 : decode cX13_addsBuyer 17 = .ok (.iload 5, 2) := by decide +kernel
theorem dX13_addsBuyer_19 : decode cX13_addsBuyer 19 = .ok (.bipush 7, 2) := by decide +kernel
theorem dX13_addsBuyer_21 : decode cX13_addsBuyer 21 = .ok (.iload_n 2, 1) := by decide +kernel
theorem dX13_addsBuyer_22 : decode cX13_addsBuyer 22 = .ok (.invokevirtual 75, 3) := by decide +kernel
theorem dX13_addsBuyer_25 : decode cX13_addsBuyer 25 = .ok (.aload_n 0, 1) := by decide +kernel
theorem dX13_addsBuyer_26 : decode cX13_addsBuyer 26 = .ok (.iload 5, 2) := by decide +kernel
theorem dX13_addsBuyer_28 : decode cX13_addsBuyer 28 = .ok (.bipush 8, 2) := by decide +kernel
theorem dX13_addsBuyer_30 : decode cX13_addsBuyer 30 = .ok (.iload_n 3, 1) := by decide +kernel
theorem dX13_addsBuyer_31 : decode cX13_addsBuyer 31 = .ok (.invokevirtual 75, 3) := by decide +kernel
theorem dX13_addsBuyer_34 : decode cX13_addsBuyer 34 = .ok (.aload_n 0, 1) := by decide +kernel
theorem dX13_addsBuyer_35 : decode cX13_addsBuyer 35 = .ok (.iload 5, 2) := by decide +kernel
theorem dX13_addsBuyer_37 : decode cX13_addsBuyer 37 = .ok (.bipush 9, 2) := by decide +kernel
theorem dX13_addsBuyer_39 : decode cX13_addsBuyer 39 = .ok (.iload 4, 2) := by decide +kernel
theorem dX13_addsBuyer_41 : decode cX13_addsBuyer 41 = .ok (.invokevirtual 75, 3) := by decide +kernel
theorem dX13_addsBuyer_44 : decode cX13_addsBuyer 44 = .ok (.aload_n 0, 1) := by decide +kernel
theorem dX13_addsBuyer_45 : decode cX13_addsBuyer 45 = .ok (.getfield 7, 3) := by decide +kernel
theorem dX13_addsBuyer_48 : decode cX13_addsBuyer 48 = .ok (.iconst 1, 1) := by decide +kernel
theorem dX13_addsBuyer_49 : decode cX13_addsBuyer 49 = .ok (.dup2, 1) := by decide +kernel
theorem dX13_addsBuyer_50 : decode cX13_addsBuyer 50 = .ok (.iaload, 1) := by decide +kernel
theorem dX13_addsBuyer_51 : decode cX13_addsBuyer 51 = .ok (.iconst 1, 1) := by decide +kernel
theorem dX13_addsBuyer_52 : decode cX13_addsBuyer 52 = .ok (.iadd, 1) := by decide +kernel
theorem dX13_addsBuyer_53 : decode cX13_addsBuyer 53 = .ok (.iastore, 1) := by decide +kernel
theorem dX13_addsBuyer_54 : decode cX13_addsBuyer 54 = .ok (.return_, 1) := by decide +kernel
theorem dX13_isThere_0 : decode cX13_isThere 0 = .ok (.aload_n 0, 1) := by decide +kernel
theorem dX13_isThere_1 : decode cX13_isThere 1 = .ok (.iload_n 1, 1) := by decide +kernel
theorem dX13_isThere_2 : decode cX13_isThere 2 = .ok (.bipush 11, 2) := by decide +kernel
theorem dX13_isThere_4 : decode cX13_isThere 4 = .ok (.invokevirtual 68, 3) := by decide +kernel
theorem dX13_isThere_7 : decode cX13_isThere 7 = .ok (.ifCond .ne 7, 3) := by decide +kernel
theorem dX13_isThere_10 : decode cX13_isThere 10 = .ok (.iconst 1, 1) := by decide +kernel
theorem dX13_isThere_11 : decode cX13_isThere 11 = .ok (.goto 4, 3) := by decide +kernel
theorem dX13_isThere_14 : decode cX13_isThere 14 = .ok (.iconst 0, 1) := by decide +kernel
theorem dX13_isThere_15 : decode cX13_isThere 15 = .ok (.ireturn, 1) := by decide +kernel
theorem dX13_ownWeight_0 : decode cX13_ownWeight 0 = .ok (.aload_n 0, 1) := by decide +kernel
theorem dX13_ownWeight_1 : decode cX13_ownWeight 1 = .ok (.iload_n 1, 1) := by decide +kernel
theorem dX13_ownWeight_2 : decode cX13_ownWeight 2 = .ok (.bipush 7, 2) := by decide +kernel
theorem dX13_ownWeight_4 : decode cX13_ownWeight 4 = .ok (.invokevirtual 68, 3) := by decide +kernel
theorem dX13_ownWeight_7 : decode cX13_ownWeight 7 = .ok (.aload_n 0, 1) := by decide +kernel
theorem dX13_ownWeight_8 : decode cX13_ownWeight 8 = .ok (.iload_n 1, 1) := by decide +kernel
theorem dX13_ownWeight_9 : decode cX13_ownWeight 9 = .ok (.bipush 8, 2) := by decide +kernel
theorem dX13_ownWeight_11 : decode cX13_ownWeight 11 = .ok (.invokevirtual 68, 3) := by decide +kernel
theorem dX13_ownWeight_14 : decode cX13_ownWeight 14 = .ok (.iadd, 1) := by decide +kernel
theorem dX13_ownWeight_15 : decode cX13_ownWeight 15 = .ok (.ireturn, 1) := by decide +kernel
theorem dX13_gross_0 : decode cX13_gross 0 = .ok (.aload_n 0, 1) := by decide +kernel
theorem dX13_gross_1 : decode cX13_gross 1 = .ok (.iload_n 1, 1) := by decide +kernel
theorem dX13_gross_2 : decode cX13_gross 2 = .ok (.invokevirtual 78, 3) := by decide +kernel
theorem dX13_gross_5 : decode cX13_gross 5 = .ok (.istore_n 2, 1) := by decide +kernel
theorem dX13_gross_6 : decode cX13_gross 6 = .ok (.iconst 0, 1) := by decide +kernel
theorem dX13_gross_7 : decode cX13_gross 7 = .ok (.istore_n 3, 1) := by decide +kernel
theorem dX13_gross_8 : decode cX13_gross 8 = .ok (.iload_n 3, 1) := by decide +kernel
theorem dX13_gross_9 : decode cX13_gross 9 = .ok (.aload_n 0, 1) := by decide +kernel
theorem dX13_gross_10 : decode cX13_gross 10 = .ok (.getfield 7, 3) := by decide +kernel
theorem dX13_gross_13 : decode cX13_gross 13 = .ok (.iconst 0, 1) := by decide +kernel
theorem dX13_gross_14 : decode cX13_gross 14 = .ok (.iaload, 1) := by decide +kernel
theorem dX13_gross_15 : decode cX13_gross 15 = .ok (.if_icmp .ge 28, 3) := by decide +kernel
theorem dX13_gross_18 : decode cX13_gross 18 = .ok (.aload_n 0, 1) := by decide +kernel
theorem dX13_gross_19 : decode cX13_gross 19 = .ok (.iload_n 3, 1) := by decide +kernel
theorem dX13_gross_20 : decode cX13_gross 20 = .ok (.bipush 9, 2) := by decide +kernel
theorem dX13_gross_22 : decode cX13_gross 22 = .ok (.invokevirtual 68, 3) := by decide +kernel
theorem dX13_gross_25 : decode cX13_gross 25 = .ok (.iload_n 1, 1) := by decide +kernel
theorem dX13_gross_26 : decode cX13_gross 26 = .ok (.if_icmp .ne 11, 3) := by decide +kernel
theorem dX13_gross_29 : decode cX13_gross 29 = .ok (.iload_n 2, 1) := by decide +kernel
theorem dX13_gross_30 : decode cX13_gross 30 = .ok (.aload_n 0, 1) := by decide +kernel
theorem dX13_gross_31 : decode cX13_gross 31 = .ok (.iload_n 3, 1) := by decide +kernel
theorem dX13_gross_32 : decode cX13_gross 32 = .ok (.invokevirtual 82, 3) := by decide +kernel
theorem dX13_gross_35 : decode cX13_gross 35 = .ok (.iadd, 1) := by decide +kernel
theorem dX13_gross_36 : decode cX13_gross 36 = .ok (.istore_n 2, 1) := by decide +kernel
theorem dX13_gross_37 : decode cX13_gross 37 = .ok (.iinc 3 1, 3) := by decide +kernel
theorem dX13_gross_40 : decode cX13_gross 40 = .ok (.goto (-32), 3) := by decide +kernel
theorem dX13_gross_43 : decode cX13_gross 43 = .ok (.iload_n 2, 1) := by decide +kernel
theorem dX13_gross_44 : decode cX13_gross 44 = .ok (.ireturn, 1) := by decide +kernel
theorem dX13_depth_0 : decode cX13_depth 0 = .ok (.iconst 0, 1) := by decide +kernel
theorem dX13_depth_1 : decode cX13_depth 1 = .ok (.istore_n 2, 1) := by decide +kernel
theorem dX13_depth_2 : decode cX13_depth 2 = .ok (.aload_n 0, 1) := by decide +kernel
theorem dX13_depth_3 : decode cX13_depth 3 = .ok (.iload_n 1, 1) := by decide +kernel
theorem dX13_depth_4 : decode cX13_depth 4 = .ok (.bipush 9, 2) := by decide +kernel
theorem dX13_depth_6 : decode cX13_depth 6 = .ok (.invokevirtual 68, 3) := by decide +kernel
theorem dX13_depth_9 : decode cX13_depth 9 = .ok (.istore_n 3, 1) := by decide +kernel
theorem dX13_depth_10 : decode cX13_depth 10 = .ok (.iload_n 3, 1) := by decide +kernel
theorem dX13_depth_11 : decode cX13_depth 11 = .ok (.iconst (-1), 1) := by decide +kernel
theorem dX13_depth_12 : decode cX13_depth 12 = .ok (.if_icmp .eq 17, 3) := by decide +kernel
theorem dX13_depth_15 : decode cX13_depth 15 = .ok (.iinc 2 1, 3) := by decide +kernel
theorem dX13_depth_18 : decode cX13_depth 18 = .ok (.aload_n 0, 1) := by decide +kernel
theorem dX13_depth_19 : decode cX13_depth 19 = .ok (.iload_n 3, 1) := by decide +kernel
theorem dX13_depth_20 : decode cX13_depth 20 = .ok (.bipush 9, 2) := by decide +kernel
theorem dX13_depth_22 : decode cX13_depth 22 = .ok (.invokevirtual 68, 3) := by decide +kernel
theorem dX13_depth_25 : decode cX13_depth 25 = .ok (.istore_n 3, 1) := by decide +kernel
theorem dX13_depth_26 : decode cX13_depth 26 = .ok (.goto (-16), 3) := by decide +kernel
theorem dX13_depth_29 : decode cX13_depth 29 = .ok (.iload_n 2, 1) := by decide +kernel
theorem dX13_depth_30 : decode cX13_depth 30 = .ok (.ireturn, 1) := by decide +kernel
theorem dX13_height_0 : decode cX13_height 0 = .ok (.iconst 0, 1) := by decide +kernel
theorem dX13_height_1 : decode cX13_height 1 = .ok (.istore_n 2, 1) := by decide +kernel
theorem dX13_height_2 : decode cX13_height 2 = .ok (.iconst 0, 1) := by decide +kernel
theorem dX13_height_3 : decode cX13_height 3 = .ok (.istore_n 3, 1) := by decide +kernel
theorem dX13_height_4 : decode cX13_height 4 = .ok (.iload_n 3, 1) := by decide +kernel
theorem dX13_height_5 : decode cX13_height 5 = .ok (.aload_n 0, 1) := by decide +kernel
theorem dX13_height_6 : decode cX13_height 6 = .ok (.getfield 7, 3) := by decide +kernel
theorem dX13_height_9 : decode cX13_height 9 = .ok (.iconst 0, 1) := by decide +kernel
theorem dX13_height_10 : decode cX13_height 10 = .ok (.iaload, 1) := by decide +kernel
theorem dX13_height_11 : decode cX13_height 11 = .ok (.if_icmp .ge 32, 3) := by decide +kernel
theorem dX13_height_14 : decode cX13_height 14 = .ok (.aload_n 0, 1) := by decide +kernel
theorem dX13_height_15 : decode cX13_height 15 = .ok (.iload_n 3, 1) := by decide +kernel
theorem dX13_height_16 : decode cX13_height 16 = .ok (.bipush 9, 2) := by decide +kernel
theorem dX13_height_18 : decode cX13_height 18 = .ok (.invokevirtual 68, 3) := by decide +kernel
theorem dX13_height_21 : decode cX13_height 21 = .ok (.iload_n 1, 1) := by decide +kernel
theorem dX13_height_22 : decode cX13_height 22 = .ok (.if_icmp .ne 15, 3) := by decide +kernel
theorem dX13_height_25 : decode cX13_height 25 = .ok (.iload_n 2, 1) := by decide +kernel
theorem dX13_height_26 : decode cX13_height 26 = .ok (.iconst 1, 1) := by decide +kernel
theorem dX13_height_27 : decode cX13_height 27 = .ok (.aload_n 0, 1) := by decide +kernel
theorem dX13_height_28 : decode cX13_height 28 = .ok (.iload_n 3, 1) := by decide +kernel
theorem dX13_height_29 : decode cX13_height 29 = .ok (.invokevirtual 85, 3) := by decide +kernel
theorem dX13_height_32 : decode cX13_height 32 = .ok (.iadd, 1) := by decide +kernel
theorem dX13_height_33 : decode cX13_height 33 = .ok (.invokestatic 88, 3) := by decide +kernel
theorem dX13_height_36 : decode cX13_height 36 = .ok (.istore_n 2, 1) := by decide +kernel
theorem dX13_height_37 : decode cX13_height 37 = .ok (.iinc 3 1, 3) := by decide +kernel
theorem dX13_height_40 : decode cX13_height 40 = .ok (.goto (-36), 3) := by decide +kernel
theorem dX13_height_43 : decode cX13_height 43 = .ok (.iload_n 2, 1) := by decide +kernel
theorem dX13_height_44 : decode cX13_height 44 = .ok (.ireturn, 1) := by decide +kernel
theorem dX13_isWithin_0 : decode cX13_isWithin 0 = .ok (.iload_n 1, 1) := by decide +kernel
theorem dX13_isWithin_1 : decode cX13_isWithin 1 = .ok (.istore_n 3, 1) := by decide +kernel
theorem dX13_isWithin_2 : decode cX13_isWithin 2 = .ok (.iload_n 3, 1) := by decide +kernel
theorem dX13_isWithin_3 : decode cX13_isWithin 3 = .ok (.iconst (-1), 1) := by decide +kernel
theorem dX13_isWithin_4 : decode cX13_isWithin 4 = .ok (.if_icmp .eq 21, 3) := by decide +kernel
theorem dX13_isWithin_7 : decode cX13_isWithin 7 = .ok (.iload_n 3, 1) := by decide +kernel
theorem dX13_isWithin_8 : decode cX13_isWithin 8 = .ok (.iload_n 2, 1) := by decide +kernel
theorem dX13_isWithin_9 : decode cX13_isWithin 9 = .ok (.if_icmp .ne 5, 3) := by decide +kernel
theorem dX13_isWithin_12 : decode cX13_isWithin 12 = .ok (.iconst 1, 1) := by decide +kernel
theorem dX13_isWithin_13 : decode cX13_isWithin 13 = .ok (.ireturn, 1) := by decide +kernel
theorem dX13_isWithin_14 : decode cX13_isWithin 14 = .ok (.aload_n 0, 1) := by decide +kernel
theorem dX13_isWithin_15 : decode cX13_isWithin 15 = .ok (.iload_n 3, 1) := by decide +kernel
theorem dX13_isWithin_16 : decode cX13_isWithin 16 = .ok (.bipush 9, 2) := by decide +kernel
theorem dX13_isWithin_18 : decode cX13_isWithin 18 = .ok (.invokevirtual 68, 3) := by decide +kernel
theorem dX13_isWithin_21 : decode cX13_isWithin 21 = .ok (.istore_n 3, 1) := by decide +kernel
theorem dX13_isWithin_22 : decode cX13_isWithin 22 = .ok (.goto (-20), 3) := by decide +kernel
theorem dX13_isWithin_25 : decode cX13_isWithin 25 = .ok (.iconst 0, 1) := by decide +kernel
theorem dX13_isWithin_26 : decode cX13_isWithin 26 = .ok (.ireturn, 1) := by decide +kernel
theorem dX13_children_0 : decode cX13_children 0 = .ok (.iconst 0, 1) := by decide +kernel
theorem dX13_children_1 : decode cX13_children 1 = .ok (.istore_n 2, 1) := by decide +kernel
theorem dX13_children_2 : decode cX13_children 2 = .ok (.iconst 0, 1) := by decide +kernel
theorem dX13_children_3 : decode cX13_children 3 = .ok (.istore_n 3, 1) := by decide +kernel
theorem dX13_children_4 : decode cX13_children 4 = .ok (.iload_n 3, 1) := by decide +kernel
theorem dX13_children_5 : decode cX13_children 5 = .ok (.aload_n 0, 1) := by decide +kernel
theorem dX13_children_6 : decode cX13_children 6 = .ok (.getfield 7, 3) := by decide +kernel
theorem dX13_children_9 : decode cX13_children 9 = .ok (.iconst 0, 1) := by decide +kernel
theorem dX13_children_10 : decode cX13_children 10 = .ok (.iaload, 1) := by decide +kernel
theorem dX13_children_11 : decode cX13_children 11 = .ok (.if_icmp .ge 31, 3) := by decide +kernel
theorem dX13_children_14 : decode cX13_children 14 = .ok (.iload_n 2, 1) := by decide +kernel
theorem dX13_children_15 : decode cX13_children 15 = .ok (.aload_n 0, 1) := by decide +kernel
theorem dX13_children_16 : decode cX13_children 16 = .ok (.iload_n 3, 1) := by decide +kernel
theorem dX13_children_17 : decode cX13_children 17 = .ok (.bipush 9, 2) := by decide +kernel
theorem dX13_children_19 : decode cX13_children 19 = .ok (.invokevirtual 68, 3) := by decide +kernel
theorem dX13_children_22 : decode cX13_children 22 = .ok (.iload_n 1, 1) := by decide +kernel
theorem dX13_children_23 : decode cX13_children 23 = .ok (.if_icmp .ne 7, 3) := by decide +kernel
theorem dX13_children_26 : decode cX13_children 26 = .ok (.iconst 1, 1) := by decide +kernel
theorem dX13_children_27 : decode cX13_children 27 = .ok (.goto 4, 3) := by decide +kernel
theorem dX13_children_30 : decode cX13_children 30 = .ok (.iconst 0, 1) := by decide +kernel
theorem dX13_children_31 : decode cX13_children 31 = .ok (.invokestatic 93, 3) := by decide +kernel
theorem dX13_children_34 : decode cX13_children 34 = .ok (.iadd, 1) := by decide +kernel
theorem dX13_children_35 : decode cX13_children 35 = .ok (.istore_n 2, 1) := by decide +kernel
theorem dX13_children_36 : decode cX13_children 36 = .ok (.iinc 3 1, 3) := by decide +kernel
theorem dX13_children_39 : decode cX13_children 39 = .ok (.goto (-35), 3) := by decide +kernel
theorem dX13_children_42 : decode cX13_children 42 = .ok (.iload_n 2, 1) := by decide +kernel
theorem dX13_children_43 : decode cX13_children 43 = .ok (.ireturn, 1) := by decide +kernel
theorem dX13_placeOf_0 : decode cX13_placeOf 0 = .ok (.iconst 0, 1) := by decide +kernel
theorem dX13_placeOf_1 : decode cX13_placeOf 1 = .ok (.istore_n 2, 1) := by decide +kernel
theorem dX13_placeOf_2 : decode cX13_placeOf 2 = .ok (.iconst 0, 1) := by decide +kernel
theorem dX13_placeOf_3 : decode cX13_placeOf 3 = .ok (.istore_n 3, 1) := by decide +kernel
theorem dX13_placeOf_4 : decode cX13_placeOf 4 = .ok (.iload_n 3, 1) := by decide +kernel
theorem dX13_placeOf_5 : decode cX13_placeOf 5 = .ok (.aload_n 0, 1) := by decide +kernel
theorem dX13_placeOf_6 : decode cX13_placeOf 6 = .ok (.getfield 7, 3) := by decide +kernel
theorem dX13_placeOf_9 : decode cX13_placeOf 9 = .ok (.iconst 0, 1) := by decide +kernel
theorem dX13_placeOf_10 : decode cX13_placeOf 10 = .ok (.iaload, 1) := by decide +kernel
theorem dX13_placeOf_11 : decode cX13_placeOf 11 = .ok (.if_icmp .ge 54, 3) := by decide +kernel
theorem dX13_placeOf_14 : decode cX13_placeOf 14 = .ok (.iload_n 2, 1) := by decide +kernel
theorem dX13_placeOf_15 : decode cX13_placeOf 15 = .ok (.aload_n 0, 1) := by decide +kernel
theorem dX13_placeOf_16 : decode cX13_placeOf 16 = .ok (.iload_n 3, 1) := by decide +kernel
theorem dX13_placeOf_17 : decode cX13_placeOf 17 = .ok (.bipush 9, 2) := by decide +kernel
theorem dX13_placeOf_19 : decode cX13_placeOf 19 = .ok (.invokevirtual 68, 3) := by decide +kernel
