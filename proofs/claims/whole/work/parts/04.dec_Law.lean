theorem d_Law_body_0 : decode (mcd M_Law_body) 0 = .ok (.aload_n 0, 1) := by decide +kernel
theorem d_Law_body_1 : decode (mcd M_Law_body) 1 = .ok (.iload_n 1, 1) := by decide +kernel
theorem d_Law_body_2 : decode (mcd M_Law_body) 2 = .ok (.iload_n 2, 1) := by decide +kernel
theorem d_Law_body_3 : decode (mcd M_Law_body) 3 = .ok (.invokevirtual 17, 3) := by decide +kernel
theorem d_Law_body_6 : decode (mcd M_Law_body) 6 = .ok (.goto 9, 3) := by decide +kernel
theorem d_Law_body_9 : decode (mcd M_Law_body) 9 = .ok (.astore_n 3, 1) := by decide +kernel
theorem d_Law_body_10 : decode (mcd M_Law_body) 10 = .ok (.iconst 1, 1) := by decide +kernel
theorem d_Law_body_11 : decode (mcd M_Law_body) 11 = .ok (.ireturn, 1) := by decide +kernel
theorem d_Law_body_12 : decode (mcd M_Law_body) 12 = .ok (.astore_n 3, 1) := by decide +kernel
theorem d_Law_body_13 : decode (mcd M_Law_body) 13 = .ok (.iconst 2, 1) := by decide +kernel
theorem d_Law_body_14 : decode (mcd M_Law_body) 14 = .ok (.ireturn, 1) := by decide +kernel
theorem d_Law_body_15 : decode (mcd M_Law_body) 15 = .ok (.iconst 0, 1) := by decide +kernel
theorem d_Law_body_16 : decode (mcd M_Law_body) 16 = .ok (.ireturn, 1) := by decide +kernel
theorem d_Law_drive_0 : decode (mcd M_Law_drive) 0 = .ok (.aload_n 1, 1) := by decide +kernel
theorem d_Law_drive_1 : decode (mcd M_Law_drive) 1 = .ok (.iconst 0, 1) := by decide +kernel
theorem d_Law_drive_2 : decode (mcd M_Law_drive) 2 = .ok (.aload_n 0, 1) := by decide +kernel
theorem d_Law_drive_3 : decode (mcd M_Law_drive) 3 = .ok (.invokevirtual 24, 3) := by decide +kernel
theorem d_Law_drive_6 : decode (mcd M_Law_drive) 6 = .ok (.i2l, 1) := by decide +kernel
theorem d_Law_drive_7 : decode (mcd M_Law_drive) 7 = .ok (.lastore, 1) := by decide +kernel
theorem d_Law_drive_8 : decode (mcd M_Law_drive) 8 = .ok (.goto 9, 3) := by decide +kernel
theorem d_Law_drive_11 : decode (mcd M_Law_drive) 11 = .ok (.astore_n 2, 1) := by decide +kernel
theorem d_Law_drive_12 : decode (mcd M_Law_drive) 12 = .ok (.iconst 1, 1) := by decide +kernel
theorem d_Law_drive_13 : decode (mcd M_Law_drive) 13 = .ok (.ireturn, 1) := by decide +kernel
theorem d_Law_drive_14 : decode (mcd M_Law_drive) 14 = .ok (.astore_n 2, 1) := by decide +kernel
theorem d_Law_drive_15 : decode (mcd M_Law_drive) 15 = .ok (.iconst 2, 1) := by decide +kernel
theorem d_Law_drive_16 : decode (mcd M_Law_drive) 16 = .ok (.ireturn, 1) := by decide +kernel
theorem d_Law_drive_17 : decode (mcd M_Law_drive) 17 = .ok (.iconst 0, 1) := by decide +kernel
theorem d_Law_drive_18 : decode (mcd M_Law_drive) 18 = .ok (.ireturn, 1) := by decide +kernel
theorem d_Law_function_0 : decode (mcd M_Law_function) 0 = .ok (.aload_n 0, 1) := by decide +kernel
theorem d_Law_function_1 : decode (mcd M_Law_function) 1 = .ok (.iload_n 1, 1) := by decide +kernel
theorem d_Law_function_2 : decode (mcd M_Law_function) 2 = .ok (.iload_n 2, 1) := by decide +kernel
theorem d_Law_function_3 : decode (mcd M_Law_function) 3 = .ok (.iload_n 3, 1) := by decide +kernel
theorem d_Law_function_4 : decode (mcd M_Law_function) 4 = .ok (.invokevirtual 7, 3) := by decide +kernel
theorem d_Law_function_7 : decode (mcd M_Law_function) 7 = .ok (.goto 11, 3) := by decide +kernel
theorem d_Law_function_10 : decode (mcd M_Law_function) 10 = .ok (.astore 4, 2) := by decide +kernel
theorem d_Law_function_12 : decode (mcd M_Law_function) 12 = .ok (.iconst 1, 1) := by decide +kernel
theorem d_Law_function_13 : decode (mcd M_Law_function) 13 = .ok (.ireturn, 1) := by decide +kernel
theorem d_Law_function_14 : decode (mcd M_Law_function) 14 = .ok (.astore 4, 2) := by decide +kernel
theorem d_Law_function_16 : decode (mcd M_Law_function) 16 = .ok (.iconst 2, 1) := by decide +kernel
theorem d_Law_function_17 : decode (mcd M_Law_function) 17 = .ok (.ireturn, 1) := by decide +kernel
theorem d_Law_function_18 : decode (mcd M_Law_function) 18 = .ok (.iconst 0, 1) := by decide +kernel
theorem d_Law_function_19 : decode (mcd M_Law_function) 19 = .ok (.ireturn, 1) := by decide +kernel
theorem d_Law_goal_0 : decode (mcd M_Law_goal) 0 = .ok (.aload_n 0, 1) := by decide +kernel
theorem d_Law_goal_1 : decode (mcd M_Law_goal) 1 = .ok (.invokevirtual 21, 3) := by decide +kernel
theorem d_Law_goal_4 : decode (mcd M_Law_goal) 4 = .ok (.goto 6, 3) := by decide +kernel
theorem d_Law_goal_7 : decode (mcd M_Law_goal) 7 = .ok (.astore_n 1, 1) := by decide +kernel
theorem d_Law_goal_8 : decode (mcd M_Law_goal) 8 = .ok (.iconst 1, 1) := by decide +kernel
theorem d_Law_goal_9 : decode (mcd M_Law_goal) 9 = .ok (.ireturn, 1) := by decide +kernel
theorem d_Law_goal_10 : decode (mcd M_Law_goal) 10 = .ok (.iconst 0, 1) := by decide +kernel
theorem d_Law_goal_11 : decode (mcd M_Law_goal) 11 = .ok (.ireturn, 1) := by decide +kernel
theorem d_Law_run_0 : decode (mcd M_Law_run) 0 = .ok (.aload_n 3, 1) := by decide +kernel
theorem d_Law_run_1 : decode (mcd M_Law_run) 1 = .ok (.iconst 0, 1) := by decide +kernel
theorem d_Law_run_2 : decode (mcd M_Law_run) 2 = .ok (.aload_n 0, 1) := by decide +kernel
theorem d_Law_run_3 : decode (mcd M_Law_run) 3 = .ok (.iload_n 1, 1) := by decide +kernel
theorem d_Law_run_4 : decode (mcd M_Law_run) 4 = .ok (.iload_n 2, 1) := by decide +kernel
theorem d_Law_run_5 : decode (mcd M_Law_run) 5 = .ok (.invokevirtual 30, 3) := by decide +kernel
theorem d_Law_run_8 : decode (mcd M_Law_run) 8 = .ok (.i2l, 1) := by decide +kernel
theorem d_Law_run_9 : decode (mcd M_Law_run) 9 = .ok (.lastore, 1) := by decide +kernel
theorem d_Law_run_10 : decode (mcd M_Law_run) 10 = .ok (.goto 11, 3) := by decide +kernel
theorem d_Law_run_13 : decode (mcd M_Law_run) 13 = .ok (.astore 4, 2) := by decide +kernel
theorem d_Law_run_15 : decode (mcd M_Law_run) 15 = .ok (.iconst 1, 1) := by decide +kernel
theorem d_Law_run_16 : decode (mcd M_Law_run) 16 = .ok (.ireturn, 1) := by decide +kernel
theorem d_Law_run_17 : decode (mcd M_Law_run) 17 = .ok (.astore 4, 2) := by decide +kernel
theorem d_Law_run_19 : decode (mcd M_Law_run) 19 = .ok (.iconst 2, 1) := by decide +kernel
theorem d_Law_run_20 : decode (mcd M_Law_run) 20 = .ok (.ireturn, 1) := by decide +kernel
theorem d_Law_run_21 : decode (mcd M_Law_run) 21 = .ok (.iconst 0, 1) := by decide +kernel
theorem d_Law_run_22 : decode (mcd M_Law_run) 22 = .ok (.ireturn, 1) := by decide +kernel
