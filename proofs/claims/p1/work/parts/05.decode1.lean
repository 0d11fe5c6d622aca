theorem dX11_status_0 : decode cX11_status 0 = .ok (.iload_n 1, 1) := by decide +kernel
theorem dX11_status_1 : decode cX11_status 1 = .ok (.ifCond .lt 18, 3) := by decide +kernel
theorem dX11_status_4 : decode cX11_status 4 = .ok (.iload_n 1, 1) := by decide +kernel
theorem dX11_status_5 : decode cX11_status 5 = .ok (.bipush 6, 2) := by decide +kernel
theorem dX11_status_7 : decode cX11_status 7 = .ok (.if_icmp .ge 12, 3) := by decide +kernel
theorem dX11_status_10 : decode cX11_status 10 = .ok (.aload_n 0, 1) := by decide +kernel
theorem dX11_status_11 : decode cX11_status 11 = .ok (.getfield 60, 3) := by decide +kernel
theorem dX11_status_14 : decode cX11_status 14 = .ok (.iload_n 1, 1) := by decide +kernel
theorem dX11_status_15 : decode cX11_status 15 = .ok (.iaload, 1) := by decide +kernel
theorem dX11_status_16 : decode cX11_status 16 = .ok (.goto 4, 3) := by decide +kernel
theorem dX11_status_19 : decode cX11_status 19 = .ok (.iconst (-1), 1) := by decide +kernel
theorem dX11_status_20 : decode cX11_status 20 = .ok (.ireturn, 1) := by decide +kernel
theorem dX12_isIn_0 : decode cX12_isIn 0 = .ok (.lload_n 0, 1) := by decide +kernel
theorem dX12_isIn_1 : decode cX12_isIn 1 = .ok (.lload_n 2, 1) := by decide +kernel
theorem dX12_isIn_2 : decode cX12_isIn 2 = .ok (.lcmp, 1) := by decide +kernel
theorem dX12_isIn_3 : decode cX12_isIn 3 = .ok (.ifCond .lt 14, 3) := by decide +kernel
theorem dX12_isIn_6 : decode cX12_isIn 6 = .ok (.lload_n 0, 1) := by decide +kernel
theorem dX12_isIn_7 : decode cX12_isIn 7 = .ok (.lload 4, 2) := by decide +kernel
theorem dX12_isIn_9 : decode cX12_isIn 9 = .ok (.lcmp, 1) := by decide +kernel
theorem dX12_isIn_10 : decode cX12_isIn 10 = .ok (.ifCond .gt 7, 3) := by decide +kernel
theorem dX12_isIn_13 : decode cX12_isIn 13 = .ok (.iconst 1, 1) := by decide +kernel
theorem dX12_isIn_14 : decode cX12_isIn 14 = .ok (.goto 4, 3) := by decide +kernel
theorem dX12_isIn_17 : decode cX12_isIn 17 = .ok (.iconst 0, 1) := by decide +kernel
theorem dX12_isIn_18 : decode cX12_isIn 18 = .ok (.ireturn, 1) := by decide +kernel
theorem dX12_isVolume_0 : decode cX12_isVolume 0 = .ok (.lload_n 1, 1) := by decide +kernel
theorem dX12_isVolume_1 : decode cX12_isVolume 1 = .ok (.lconst 0, 1) := by decide +kernel
theorem dX12_isVolume_2 : decode cX12_isVolume 2 = .ok (.ldc2_w 441, 3) := by decide +kernel
theorem dX12_isVolume_5 : decode cX12_isVolume 5 = .ok (.invokestatic 309, 3) := by decide +kernel
theorem dX12_isVolume_8 : decode cX12_isVolume 8 = .ok (.ifCond .eq 27, 3) := by decide +kernel
theorem dX12_isVolume_11 : decode cX12_isVolume 11 = .ok (.aload_n 0, 1) := by decide +kernel
theorem dX12_isVolume_12 : decode cX12_isVolume 12 = .ok (.getfield 406, 3) := by decide +kernel
theorem dX12_isVolume_15 : decode cX12_isVolume 15 = .ok (.ifCond .eq 20, 3) := by decide +kernel
theorem dX12_isVolume_35 : decode cX12_isVolume 35 = .ok (.iconst 0, 1) := by decide +kernel
theorem dX12_isVolume_36 : decode cX12_isVolume 36 = .ok (.ireturn, 1) := by decide +kernel
theorem dX12_status_0 : decode cX12_status 0 = .ok (.iload_n 1, 1) := by decide +kernel
theorem dX12_status_1 : decode cX12_status 1 = .ok (.i2l, 1) := by decide +kernel
theorem dX12_status_2 : decode cX12_status 2 = .ok (.lconst 0, 1) := by decide +kernel
theorem dX12_status_3 : decode cX12_status 3 = .ok (.ldc2_w 590, 3) := by decide +kernel
theorem dX12_status_6 : decode cX12_status 6 = .ok (.invokestatic 309, 3) := by decide +kernel
theorem dX12_status_9 : decode cX12_status 9 = .ok (.ifCond .eq 12, 3) := by decide +kernel
theorem dX12_status_12 : decode cX12_status 12 = .ok (.aload_n 0, 1) := by decide +kernel
theorem dX12_status_13 : decode cX12_status 13 = .ok (.getfield 17, 3) := by decide +kernel
theorem dX12_status_16 : decode cX12_status 16 = .ok (.iload_n 1, 1) := by decide +kernel
theorem dX12_status_17 : decode cX12_status 17 = .ok (.iaload, 1) := by decide +kernel
theorem dX12_status_18 : decode cX12_status 18 = .ok (.goto 4, 3) := by decide +kernel
theorem dX12_status_21 : decode cX12_status 21 = .ok (.iconst (-1), 1) := by decide +kernel
theorem dX12_status_22 : decode cX12_status 22 = .ok (.ireturn, 1) := by decide +kernel
theorem dX8_isBlock_0 : decode cX8_isBlock 0 = .ok (.iload_n 1, 1) := by decide +kernel
theorem dX8_isBlock_1 : decode cX8_isBlock 1 = .ok (.ifCond .lt 15, 3) := by decide +kernel
theorem dX8_isBlock_4 : decode cX8_isBlock 4 = .ok (.iload_n 1, 1) := by decide +kernel
theorem dX8_isBlock_5 : decode cX8_isBlock 5 = .ok (.aload_n 0, 1) := by decide +kernel
theorem dX8_isBlock_6 : decode cX8_isBlock 6 = .ok (.getfield 40, 3) := by decide +kernel
theorem dX8_isBlock_9 : decode cX8_isBlock 9 = .ok (.if_icmp .ge 7, 3) := by decide +kernel
theorem dX8_isBlock_16 : decode cX8_isBlock 16 = .ok (.iconst 0, 1) := by decide +kernel
theorem dX8_isBlock_17 : decode cX8_isBlock 17 = .ok (.ireturn, 1) := by decide +kernel
theorem dX8_isVolume_0 : decode cX8_isVolume 0 = .ok (.iload_n 1, 1) := by decide +kernel
theorem dX8_isVolume_1 : decode cX8_isVolume 1 = .ok (.ifCond .lt 24, 3) := by decide +kernel
theorem dX8_isVolume_4 : decode cX8_isVolume 4 = .ok (.iload_n 1, 1) := by decide +kernel
theorem dX8_isVolume_5 : decode cX8_isVolume 5 = .ok (.bipush 8, 2) := by decide +kernel
theorem dX8_isVolume_7 : decode cX8_isVolume 7 = .ok (.if_icmp .ge 18, 3) := by decide +kernel
theorem dX8_isVolume_10 : decode cX8_isVolume 10 = .ok (.aload_n 0, 1) := by decide +kernel
theorem dX8_isVolume_11 : decode cX8_isVolume 11 = .ok (.getfield 30, 3) := by decide +kernel
theorem dX8_isVolume_14 : decode cX8_isVolume 14 = .ok (.iload_n 1, 1) := by decide +kernel
theorem dX8_isVolume_15 : decode cX8_isVolume 15 = .ok (.iaload, 1) := by decide +kernel
theorem dX8_isVolume_16 : decode cX8_isVolume 16 = .ok (.bipush (-2), 2) := by decide +kernel
theorem dX8_isVolume_18 : decode cX8_isVolume 18 = .ok (.if_icmp .eq 7, 3) := by decide +kernel
theorem dX8_isVolume_25 : decode cX8_isVolume 25 = .ok (.iconst 0, 1) := by decide +kernel
theorem dX8_isVolume_26 : decode cX8_isVolume 26 = .ok (.ireturn, 1) := by decide +kernel
