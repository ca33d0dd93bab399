theorem dL_fails_3 : decode cL_fails 3 = .ok (.iload_n 1, 1) := by decide +kernel
theorem dL_fails_4 : decode cL_fails 4 = .ok (.invokevirtual 65, 3) := by decide +kernel
theorem dL_fails_7 : decode cL_fails 7 = .ok (.ifCond .eq 7, 3) := by decide +kernel
theorem dL_fails_10 : decode cL_fails 10 = .ok (.lconst 1, 1) := by decide +kernel
theorem dL_fails_11 : decode cL_fails 11 = .ok (.goto 4, 3) := by decide +kernel
theorem dL_fails_14 : decode cL_fails 14 = .ok (.lconst 0, 1) := by decide +kernel
theorem dL_fails_15 : decode cL_fails 15 = .ok (.lastore, 1) := by decide +kernel
theorem dL_fails_16 : decode cL_fails 16 = .ok (.goto 6, 3) := by decide +kernel
theorem dL_fails_19 : decode cL_fails 19 = .ok (.astore_n 3, 1) := by decide +kernel
theorem dL_fails_20 : decode cL_fails 20 = .ok (.iconst 1, 1) := by decide +kernel
theorem dL_fails_21 : decode cL_fails 21 = .ok (.ireturn, 1) := by decide +kernel
theorem dL_fails_22 : decode cL_fails 22 = .ok (.iconst 0, 1) := by decide +kernel
theorem dL_fails_23 : decode cL_fails 23 = .ok (.ireturn, 1) := by decide +kernel
theorem dL_plan_0 : decode cL_plan 0 = .ok (.aload 4, 2) := by decide +kernel
theorem dL_plan_2 : decode cL_plan 2 = .ok (.iconst 0, 1) := by decide +kernel
theorem dL_plan_3 : decode cL_plan 3 = .ok (.aload_n 0, 1) := by decide +kernel
theorem dL_plan_4 : decode cL_plan 4 = .ok (.iload_n 1, 1) := by decide +kernel
theorem dL_plan_5 : decode cL_plan 5 = .ok (.iload_n 2, 1) := by decide +kernel
theorem dL_plan_6 : decode cL_plan 6 = .ok (.iload_n 3, 1) := by decide +kernel
theorem dL_plan_7 : decode cL_plan 7 = .ok (.invokevirtual 69, 3) := by decide +kernel
theorem dL_plan_10 : decode cL_plan 10 = .ok (.i2l, 1) := by decide +kernel
theorem dL_plan_11 : decode cL_plan 11 = .ok (.lastore, 1) := by decide +kernel
theorem dL_plan_12 : decode cL_plan 12 = .ok (.goto 11, 3) := by decide +kernel
theorem dL_plan_15 : decode cL_plan 15 = .ok (.astore 5, 2) := by decide +kernel
theorem dL_plan_17 : decode cL_plan 17 = .ok (.iconst 1, 1) := by decide +kernel
theorem dL_plan_18 : decode cL_plan 18 = .ok (.ireturn, 1) := by decide +kernel
theorem dL_plan_19 : decode cL_plan 19 = .ok (.astore 5, 2) := by decide +kernel
theorem dL_plan_21 : decode cL_plan 21 = .ok (.iconst 2, 1) := by decide +kernel
theorem dL_plan_22 : decode cL_plan 22 = .ok (.ireturn, 1) := by decide +kernel
theorem dL_plan_23 : decode cL_plan 23 = .ok (.iconst 0, 1) := by decide +kernel
theorem dL_plan_24 : decode cL_plan 24 = .ok (.ireturn, 1) := by decide +kernel
theorem dL_cost_0 : decode cL_cost 0 = .ok (.aload_n 3, 1) := by decide +kernel
theorem dL_cost_1 : decode cL_cost 1 = .ok (.iconst 0, 1) := by decide +kernel
theorem dL_cost_2 : decode cL_cost 2 = .ok (.aload_n 0, 1) := by decide +kernel
theorem dL_cost_3 : decode cL_cost 3 = .ok (.iload_n 1, 1) := by decide +kernel
theorem dL_cost_4 : decode cL_cost 4 = .ok (.iload_n 2, 1) := by decide +kernel
theorem dL_cost_5 : decode cL_cost 5 = .ok (.invokevirtual 72, 3) := by decide +kernel
theorem dL_cost_8 : decode cL_cost 8 = .ok (.i2l, 1) := by decide +kernel
theorem dL_cost_9 : decode cL_cost 9 = .ok (.lastore, 1) := by decide +kernel
theorem dL_cost_10 : decode cL_cost 10 = .ok (.goto 11, 3) := by decide +kernel
theorem dL_cost_13 : decode cL_cost 13 = .ok (.astore 4, 2) := by decide +kernel
theorem dL_cost_15 : decode cL_cost 15 = .ok (.iconst 1, 1) := by decide +kernel
theorem dL_cost_16 : decode cL_cost 16 = .ok (.ireturn, 1) := by decide +kernel
theorem dL_cost_17 : decode cL_cost 17 = .ok (.astore 4, 2) := by decide +kernel
theorem dL_cost_19 : decode cL_cost 19 = .ok (.iconst 2, 1) := by decide +kernel
theorem dL_cost_20 : decode cL_cost 20 = .ok (.ireturn, 1) := by decide +kernel
theorem dL_cost_21 : decode cL_cost 21 = .ok (.iconst 0, 1) := by decide +kernel
theorem dL_cost_22 : decode cL_cost 22 = .ok (.ireturn, 1) := by decide +kernel
theorem dL_ring_0 : decode cL_ring 0 = .ok (.aload_n 2, 1) := by decide +kernel
theorem dL_ring_1 : decode cL_ring 1 = .ok (.iconst 0, 1) := by decide +kernel
theorem dL_ring_2 : decode cL_ring 2 = .ok (.aload_n 0, 1) := by decide +kernel
theorem dL_ring_3 : decode cL_ring 3 = .ok (.iload_n 1, 1) := by decide +kernel
theorem dL_ring_4 : decode cL_ring 4 = .ok (.invokevirtual 75, 3) := by decide +kernel
theorem dL_ring_7 : decode cL_ring 7 = .ok (.i2l, 1) := by decide +kernel
theorem dL_ring_8 : decode cL_ring 8 = .ok (.lastore, 1) := by decide +kernel
theorem dL_ring_9 : decode cL_ring 9 = .ok (.goto 6, 3) := by decide +kernel
theorem dL_ring_12 : decode cL_ring 12 = .ok (.astore_n 3, 1) := by decide +kernel
theorem dL_ring_13 : decode cL_ring 13 = .ok (.iconst 1, 1) := by decide +kernel
theorem dL_ring_14 : decode cL_ring 14 = .ok (.ireturn, 1) := by decide +kernel
theorem dL_ring_15 : decode cL_ring 15 = .ok (.iconst 0, 1) := by decide +kernel
theorem dL_ring_16 : decode cL_ring 16 = .ok (.ireturn, 1) := by decide +kernel
theorem dL_run_0 : decode cL_run 0 = .ok (.aload_n 3, 1) := by decide +kernel
theorem dL_run_1 : decode cL_run 1 = .ok (.iconst 0, 1) := by decide +kernel
theorem dL_run_2 : decode cL_run 2 = .ok (.aload_n 0, 1) := by decide +kernel
theorem dL_run_3 : decode cL_run 3 = .ok (.iload_n 1, 1) := by decide +kernel
theorem dL_run_4 : decode cL_run 4 = .ok (.iload_n 2, 1) := by decide +kernel
theorem dL_run_5 : decode cL_run 5 = .ok (.invokevirtual 78, 3) := by decide +kernel
theorem dL_run_8 : decode cL_run 8 = .ok (.i2l, 1) := by decide +kernel
theorem dL_run_9 : decode cL_run 9 = .ok (.lastore, 1) := by decide +kernel
theorem dL_run_10 : decode cL_run 10 = .ok (.goto 11, 3) := by decide +kernel
theorem dL_run_13 : decode cL_run 13 = .ok (.astore 4, 2) := by decide +kernel
theorem dL_run_15 : decode cL_run 15 = .ok (.iconst 1, 1) := by decide +kernel
theorem dL_run_16 : decode cL_run 16 = .ok (.ireturn, 1) := by decide +kernel
theorem dL_run_17 : decode cL_run 17 = .ok (.astore 4, 2) := by decide +kernel
theorem dL_run_19 : decode cL_run 19 = .ok (.iconst 2, 1) := by decide +kernel
theorem dL_run_20 : decode cL_run 20 = .ok (.ireturn, 1) := by decide +kernel
theorem dL_run_21 : decode cL_run 21 = .ok (.iconst 0, 1) := by decide +kernel
theorem dL_run_22 : decode cL_run 22 = .ok (.ireturn, 1) := by decide +kernel
theorem dL_saint_0 : decode cL_saint 0 = .ok (.aload 4, 2) := by decide +kernel
theorem dL_saint_2 : decode cL_saint 2 = .ok (.iconst 0, 1) := by decide +kernel
theorem dL_saint_3 : decode cL_saint 3 = .ok (.aload_n 0, 1) := by decide +kernel
theorem dL_saint_4 : decode cL_saint 4 = .ok (.iload_n 1, 1) := by decide +kernel
theorem dL_saint_5 : decode cL_saint 5 = .ok (.iload_n 2, 1) := by decide +kernel
theorem dL_saint_6 : decode cL_saint 6 = .ok (.iload_n 3, 1) := by decide +kernel
theorem dL_saint_7 : decode cL_saint 7 = .ok (.invokevirtual 82, 3) := by decide +kernel
theorem dL_saint_10 : decode cL_saint 10 = .ok (.i2l, 1) := by decide +kernel
theorem dL_saint_11 : decode cL_saint 11 = .ok (.lastore, 1) := by decide +kernel
theorem dL_saint_12 : decode cL_saint 12 = .ok (.goto 7, 3) := by decide +kernel
theorem dL_saint_15 : decode cL_saint 15 = .ok (.astore 5, 2) := by decide +kernel
theorem dL_saint_17 : decode cL_saint 17 = .ok (.iconst 1, 1) := by decide +kernel
theorem dL_saint_18 : decode cL_saint 18 = .ok (.ireturn, 1) := by decide +kernel
theorem dL_saint_19 : decode cL_saint 19 = .ok (.iconst 0, 1) := by decide +kernel
theorem dL_saint_20 : decode cL_saint 20 = .ok (.ireturn, 1) := by decide +kernel
theorem dL_share_0 : decode cL_share 0 = .ok (.aload_n 3, 1) := by decide +kernel
theorem dL_share_1 : decode cL_share 1 = .ok (.iconst 0, 1) := by decide +kernel
theorem dL_share_2 : decode cL_share 2 = .ok (.aload_n 0, 1) := by decide +kernel
theorem dL_share_3 : decode cL_share 3 = .ok (.iload_n 1, 1) := by decide +kernel
theorem dL_share_4 : decode cL_share 4 = .ok (.iload_n 2, 1) := by decide +kernel
theorem dL_share_5 : decode cL_share 5 = .ok (.invokevirtual 86, 3) := by decide +kernel
theorem dL_share_8 : decode cL_share 8 = .ok (.ifCond .eq 7, 3) := by decide +kernel
theorem dL_share_11 : decode cL_share 11 = .ok (.lconst 1, 1) := by decide +kernel
theorem dL_share_12 : decode cL_share 12 = .ok (.goto 4, 3) := by decide +kernel
theorem dL_share_15 : decode cL_share 15 = .ok (.lconst 0, 1) := by decide +kernel
theorem dL_share_16 : decode cL_share 16 = .ok (.lastore, 1) := by decide +kernel
theorem dL_share_17 : decode cL_share 17 = .ok (.goto 15, 3) := by decide +kernel
theorem dL_share_20 : decode cL_share 20 = .ok (.astore 4, 2) := by decide +kernel
theorem dL_share_22 : decode cL_share 22 = .ok (.iconst 1, 1) := by decide +kernel
theorem dL_share_23 : decode cL_share 23 = .ok (.ireturn, 1) := by decide +kernel
theorem dL_share_24 : decode cL_share 24 = .ok (.astore 4, 2) := by decide +kernel
theorem dL_share_26 : decode cL_share 26 = .ok (.iconst 2, 1) := by decide +kernel
theorem dL_share_27 : decode cL_share 27 = .ok (.ireturn, 1) := by decide +kernel
theorem dL_share_28 : decode cL_share 28 = .ok (.astore 4, 2) := by decide +kernel
theorem dL_share_30 : decode cL_share 30 = .ok (.iconst 3, 1) := by decide +kernel
theorem dL_share_31 : decode cL_share 31 = .ok (.ireturn, 1) := by decide +kernel
theorem dL_share_32 : decode cL_share 32 = .ok (.iconst 0, 1) := by decide +kernel
theorem dL_share_33 : decode cL_share 33 = .ok (.ireturn, 1) := by decide +kernel
theorem dL_shares_0 : decode cL_shares 0 = .ok (.aload_n 3, 1) := by decide +kernel
theorem dL_shares_1 : decode cL_shares 1 = .ok (.iconst 0, 1) := by decide +kernel
theorem dL_shares_2 : decode cL_shares 2 = .ok (.aload_n 0, 1) := by decide +kernel
theorem dL_shares_3 : decode cL_shares 3 = .ok (.iload_n 1, 1) := by decide +kernel
theorem dL_shares_4 : decode cL_shares 4 = .ok (.iload_n 2, 1) := by decide +kernel
theorem dL_shares_5 : decode cL_shares 5 = .ok (.invokevirtual 90, 3) := by decide +kernel
theorem dL_shares_8 : decode cL_shares 8 = .ok (.i2l, 1) := by decide +kernel
theorem dL_shares_9 : decode cL_shares 9 = .ok (.lastore, 1) := by decide +kernel
theorem dL_shares_10 : decode cL_shares 10 = .ok (.goto 15, 3) := by decide +kernel
theorem dL_shares_13 : decode cL_shares 13 = .ok (.astore 4, 2) := by decide +kernel
theorem dL_shares_15 : decode cL_shares 15 = .ok (.iconst 1, 1) := by decide +kernel
theorem dL_shares_16 : decode cL_shares 16 = .ok (.ireturn, 1) := by decide +kernel
theorem dL_shares_17 : decode cL_shares 17 = .ok (.astore 4, 2) := by decide +kernel
theorem dL_shares_19 : decode cL_shares 19 = .ok (.iconst 2, 1) := by decide +kernel
theorem dL_shares_20 : decode cL_shares 20 = .ok (.ireturn, 1) := by decide +kernel
theorem dL_shares_21 : decode cL_shares 21 = .ok (.astore 4, 2) := by decide +kernel
theorem dL_shares_23 : decode cL_shares 23 = .ok (.iconst 3, 1) := by decide +kernel
theorem dL_shares_24 : decode cL_shares 24 = .ok (.ireturn, 1) := by decide +kernel
theorem dL_shares_25 : decode cL_shares 25 = .ok (.iconst 0, 1) := by decide +kernel
theorem dL_shares_26 : decode cL_shares 26 = .ok (.ireturn, 1) := by decide +kernel
theorem dL_could_0 : decode cL_could 0 = .ok (.aload_n 2, 1) := by decide +kernel
theorem dL_could_1 : decode cL_could 1 = .ok (.iconst 0, 1) := by decide +kernel
theorem dL_could_2 : decode cL_could 2 = .ok (.aload_n 0, 1) := by decide +kernel
theorem dL_could_3 : decode cL_could 3 = .ok (.iload_n 1, 1) := by decide +kernel
theorem dL_could_4 : decode cL_could 4 = .ok (.invokevirtual 93, 3) := by decide +kernel
theorem dL_could_7 : decode cL_could 7 = .ok (.i2l, 1) := by decide +kernel
theorem dL_could_8 : decode cL_could 8 = .ok (.lastore, 1) := by decide +kernel
theorem dL_could_9 : decode cL_could 9 = .ok (.goto 6, 3) := by decide +kernel
theorem dL_could_12 : decode cL_could 12 = .ok (.astore_n 3, 1) := by decide +kernel
theorem dL_could_13 : decode cL_could 13 = .ok (.iconst 1, 1) := by decide +kernel
theorem dL_could_14 : decode cL_could 14 = .ok (.ireturn, 1) := by decide +kernel
theorem dL_could_15 : decode cL_could 15 = .ok (.iconst 0, 1) := by decide +kernel
theorem dL_could_16 : decode cL_could 16 = .ok (.ireturn, 1) := by decide +kernel
theorem dL_peak_0 : decode cL_peak 0 = .ok (.aload 4, 2) := by decide +kernel
theorem dL_peak_2 : decode cL_peak 2 = .ok (.iconst 0, 1) := by decide +kernel
theorem dL_peak_3 : decode cL_peak 3 = .ok (.aload_n 0, 1) := by decide +kernel
theorem dL_peak_4 : decode cL_peak 4 = .ok (.iload_n 1, 1) := by decide +kernel
theorem dL_peak_5 : decode cL_peak 5 = .ok (.iload_n 2, 1) := by decide +kernel
theorem dL_peak_6 : decode cL_peak 6 = .ok (.iload_n 3, 1) := by decide +kernel
theorem dL_peak_7 : decode cL_peak 7 = .ok (.invokevirtual 96, 3) := by decide +kernel
theorem dL_peak_10 : decode cL_peak 10 = .ok (.i2l, 1) := by decide +kernel
theorem dL_peak_11 : decode cL_peak 11 = .ok (.lastore, 1) := by decide +kernel
theorem dL_peak_12 : decode cL_peak 12 = .ok (.goto 15, 3) := by decide +kernel
theorem dL_peak_15 : decode cL_peak 15 = .ok (.astore 5, 2) := by decide +kernel
theorem dL_peak_17 : decode cL_peak 17 = .ok (.iconst 1, 1) := by decide +kernel
theorem dL_peak_18 : decode cL_peak 18 = .ok (.ireturn, 1) := by decide +kernel
theorem dL_peak_19 : decode cL_peak 19 = .ok (.astore 5, 2) := by decide +kernel
theorem dL_peak_21 : decode cL_peak 21 = .ok (.iconst 2, 1) := by decide +kernel
theorem dL_peak_22 : decode cL_peak 22 = .ok (.ireturn, 1) := by decide +kernel
theorem dL_peak_23 : decode cL_peak 23 = .ok (.astore 5, 2) := by decide +kernel
theorem dL_peak_25 : decode cL_peak 25 = .ok (.iconst 3, 1) := by decide +kernel
theorem dL_peak_26 : decode cL_peak 26 = .ok (.ireturn, 1) := by decide +kernel
theorem dL_peak_27 : decode cL_peak 27 = .ok (.iconst 0, 1) := by decide +kernel
theorem dL_peak_28 : decode cL_peak 28 = .ok (.ireturn, 1) := by decide +kernel
theorem dL_needed_0 : decode cL_needed 0 = .ok (.aload_n 2, 1) := by decide +kernel
theorem dL_needed_1 : decode cL_needed 1 = .ok (.iconst 0, 1) := by decide +kernel
theorem dL_needed_2 : decode cL_needed 2 = .ok (.aload_n 0, 1) := by decide +kernel
theorem dL_needed_3 : decode cL_needed 3 = .ok (.iload_n 1, 1) := by decide +kernel
theorem dL_needed_4 : decode cL_needed 4 = .ok (.invokevirtual 99, 3) := by decide +kernel
theorem dL_needed_7 : decode cL_needed 7 = .ok (.i2l, 1) := by decide +kernel
theorem dL_needed_8 : decode cL_needed 8 = .ok (.lastore, 1) := by decide +kernel
theorem dL_needed_9 : decode cL_needed 9 = .ok (.goto 6, 3) := by decide +kernel
theorem dL_needed_12 : decode cL_needed 12 = .ok (.astore_n 3, 1) := by decide +kernel
theorem dL_needed_13 : decode cL_needed 13 = .ok (.iconst 1, 1) := by decide +kernel
theorem dL_needed_14 : decode cL_needed 14 = .ok (.ireturn, 1) := by decide +kernel
theorem dL_needed_15 : decode cL_needed 15 = .ok (.iconst 0, 1) := by decide +kernel
theorem dL_needed_16 : decode cL_needed 16 = .ok (.ireturn, 1) := by decide +kernel
theorem dL_rank_0 : decode cL_rank 0 = .ok (.aload_n 2, 1) := by decide +kernel
theorem dL_rank_1 : decode cL_rank 1 = .ok (.iconst 0, 1) := by decide +kernel
theorem dL_rank_2 : decode cL_rank 2 = .ok (.aload_n 0, 1) := by decide +kernel
theorem dL_rank_3 : decode cL_rank 3 = .ok (.iload_n 1, 1) := by decide +kernel
theorem dL_rank_4 : decode cL_rank 4 = .ok (.invokevirtual 102, 3) := by decide +kernel
theorem dL_rank_7 : decode cL_rank 7 = .ok (.i2l, 1) := by decide +kernel
theorem dL_rank_8 : decode cL_rank 8 = .ok (.lastore, 1) := by decide +kernel
theorem dL_rank_9 : decode cL_rank 9 = .ok (.goto 9, 3) := by decide +kernel
theorem dL_rank_12 : decode cL_rank 12 = .ok (.astore_n 3, 1) := by decide +kernel
theorem dL_rank_13 : decode cL_rank 13 = .ok (.iconst 1, 1) := by decide +kernel
theorem dL_rank_14 : decode cL_rank 14 = .ok (.ireturn, 1) := by decide +kernel
theorem dL_rank_15 : decode cL_rank 15 = .ok (.astore_n 3, 1) := by decide +kernel
theorem dL_rank_16 : decode cL_rank 16 = .ok (.iconst 2, 1) := by decide +kernel
theorem dL_rank_17 : decode cL_rank 17 = .ok (.ireturn, 1) := by decide +kernel
theorem dL_rank_18 : decode cL_rank 18 = .ok (.iconst 0, 1) := by decide +kernel
theorem dL_rank_19 : decode cL_rank 19 = .ok (.ireturn, 1) := by decide +kernel
theorem dL_trial_0 : decode cL_trial 0 = .ok (.aload_n 3, 1) := by decide +kernel
theorem dL_trial_1 : decode cL_trial 1 = .ok (.iconst 0, 1) := by decide +kernel
theorem dL_trial_2 : decode cL_trial 2 = .ok (.aload_n 0, 1) := by decide +kernel
theorem dL_trial_3 : decode cL_trial 3 = .ok (.iload_n 1, 1) := by decide +kernel
theorem dL_trial_4 : decode cL_trial 4 = .ok (.iload_n 2, 1) := by decide +kernel
theorem dL_trial_5 : decode cL_trial 5 = .ok (.invokevirtual 105, 3) := by decide +kernel
theorem dL_trial_8 : decode cL_trial 8 = .ok (.i2l, 1) := by decide +kernel
theorem dL_trial_9 : decode cL_trial 9 = .ok (.lastore, 1) := by decide +kernel
theorem dL_trial_10 : decode cL_trial 10 = .ok (.goto 7, 3) := by decide +kernel
theorem dL_trial_13 : decode cL_trial 13 = .ok (.astore 4, 2) := by decide +kernel
theorem dL_trial_15 : decode cL_trial 15 = .ok (.iconst 1, 1) := by decide +kernel
theorem dL_trial_16 : decode cL_trial 16 = .ok (.ireturn, 1) := by decide +kernel
theorem dL_trial_17 : decode cL_trial 17 = .ok (.iconst 0, 1) := by decide +kernel
theorem dL_trial_18 : decode cL_trial 18 = .ok (.ireturn, 1) := by decide +kernel
theorem dL_span_0 : decode cL_span 0 = .ok (.aload_n 3, 1) := by decide +kernel
theorem dL_span_1 : decode cL_span 1 = .ok (.iconst 0, 1) := by decide +kernel
theorem dL_span_2 : decode cL_span 2 = .ok (.aload_n 0, 1) := by decide +kernel
theorem dL_span_3 : decode cL_span 3 = .ok (.iload_n 1, 1) := by decide +kernel
theorem dL_span_4 : decode cL_span 4 = .ok (.iload_n 2, 1) := by decide +kernel
theorem dL_span_5 : decode cL_span 5 = .ok (.invokevirtual 108, 3) := by decide +kernel
theorem dL_span_8 : decode cL_span 8 = .ok (.i2l, 1) := by decide +kernel
theorem dL_span_9 : decode cL_span 9 = .ok (.lastore, 1) := by decide +kernel
theorem dL_span_10 : decode cL_span 10 = .ok (.goto 7, 3) := by decide +kernel
theorem dL_span_13 : decode cL_span 13 = .ok (.astore 4, 2) := by decide +kernel
theorem dL_span_15 : decode cL_span 15 = .ok (.iconst 1, 1) := by decide +kernel
theorem dL_span_16 : decode cL_span 16 = .ok (.ireturn, 1) := by decide +kernel
theorem dL_span_17 : decode cL_span 17 = .ok (.iconst 0, 1) := by decide +kernel
theorem dL_span_18 : decode cL_span 18 = .ok (.ireturn, 1) := by decide +kernel
theorem dL_led_0 : decode cL_led 0 = .ok (.aload_n 3, 1) := by decide +kernel
theorem dL_led_1 : decode cL_led 1 = .ok (.iconst 0, 1) := by decide +kernel
theorem dL_led_2 : decode cL_led 2 = .ok (.aload_n 0, 1) := by decide +kernel
theorem dL_led_3 : decode cL_led 3 = .ok (.iload_n 1, 1) := by decide +kernel
theorem dL_led_4 : decode cL_led 4 = .ok (.iload_n 2, 1) := by decide +kernel
theorem dL_led_5 : decode cL_led 5 = .ok (.invokevirtual 111, 3) := by decide +kernel
theorem dL_led_8 : decode cL_led 8 = .ok (.i2l, 1) := by decide +kernel
theorem dL_led_9 : decode cL_led 9 = .ok (.lastore, 1) := by decide +kernel
theorem dL_led_10 : decode cL_led 10 = .ok (.goto 7, 3) := by decide +kernel
theorem dL_led_13 : decode cL_led 13 = .ok (.astore 4, 2) := by decide +kernel
theorem dL_led_15 : decode cL_led 15 = .ok (.iconst 1, 1) := by decide +kernel
theorem dL_led_16 : decode cL_led 16 = .ok (.ireturn, 1) := by decide +kernel
theorem dL_led_17 : decode cL_led 17 = .ok (.iconst 0, 1) := by decide +kernel
theorem dL_led_18 : decode cL_led 18 = .ok (.ireturn, 1) := by decide +kernel
theorem dL_log_0 : decode cL_log 0 = .ok (.aload_n 3, 1) := by decide +kernel
theorem dL_log_1 : decode cL_log 1 = .ok (.iconst 0, 1) := by decide +kernel
theorem dL_log_2 : decode cL_log 2 = .ok (.aload_n 0, 1) := by decide +kernel
theorem dL_log_3 : decode cL_log 3 = .ok (.iload_n 1, 1) := by decide +kernel
theorem dL_log_4 : decode cL_log 4 = .ok (.iload_n 2, 1) := by decide +kernel
theorem dL_log_5 : decode cL_log 5 = .ok (.invokevirtual 114, 3) := by decide +kernel
theorem dL_log_8 : decode cL_log 8 = .ok (.i2l, 1) := by decide +kernel
theorem dL_log_9 : decode cL_log 9 = .ok (.lastore, 1) := by decide +kernel
theorem dL_log_10 : decode cL_log 10 = .ok (.goto 7, 3) := by decide +kernel
theorem dL_log_13 : decode cL_log 13 = .ok (.astore 4, 2) := by decide +kernel
theorem dL_log_15 : decode cL_log 15 = .ok (.iconst 1, 1) := by decide +kernel
theorem dL_log_16 : decode cL_log 16 = .ok (.ireturn, 1) := by decide +kernel
theorem dL_log_17 : decode cL_log 17 = .ok (.iconst 0, 1) := by decide +kernel
theorem dL_log_18 : decode cL_log 18 = .ok (.ireturn, 1) := by decide +kernel
theorem dL_law__0 : decode cL_law_ 0 = .ok (.new 8, 3) := by decide +kernel
theorem dL_law__3 : decode cL_law_ 3 = .ok (.dup, 1) := by decide +kernel
theorem dL_law__4 : decode cL_law_ 4 = .ok (.invokespecial 117, 3) := by decide +kernel
theorem dL_law__7 : decode cL_law_ 7 = .ok (.astore_n 1, 1) := by decide +kernel
theorem dL_law__8 : decode cL_law_ 8 = .ok (.new 118, 3) := by decide +kernel
theorem dL_law__11 : decode cL_law_ 11 = .ok (.dup, 1) := by decide +kernel
theorem dL_law__12 : decode cL_law_ 12 = .ok (.invokespecial 120, 3) := by decide +kernel
theorem dL_law__15 : decode cL_law_ 15 = .ok (.astore_n 2, 1) := by decide +kernel
theorem dL_law__16 : decode cL_law_ 16 = .ok (.iconst 1, 1) := by decide +kernel
theorem dL_law__17 : decode cL_law_ 17 = .ok (.newarray .long, 2) := by decide +kernel
theorem dL_law__19 : decode cL_law_ 19 = .ok (.astore_n 3, 1) := by decide +kernel
theorem dL_law__20 : decode cL_law_ 20 = .ok (.iconst 0, 1) := by decide +kernel
theorem dL_law__21 : decode cL_law_ 21 = .ok (.istore 4, 2) := by decide +kernel
theorem dL_law__23 : decode cL_law_ 23 = .ok (.iload 4, 2) := by decide +kernel
theorem dL_law__25 : decode cL_law_ 25 = .ok (.aload_n 0, 1) := by decide +kernel
theorem dL_law__26 : decode cL_law_ 26 = .ok (.arraylength, 1) := by decide +kernel
theorem dL_law__27 : decode cL_law_ 27 = .ok (.bipush 6, 2) := by decide +kernel
theorem dL_law__29 : decode cL_law_ 29 = .ok (.isub, 1) := by decide +kernel
theorem dL_law__30 : decode cL_law_ 30 = .ok (.if_icmp .gt 2731, 3) := by decide +kernel
theorem dL_law__33 : decode cL_law_ 33 = .ok (.aload_n 0, 1) := by decide +kernel
theorem dL_law__34 : decode cL_law_ 34 = .ok (.iload 4, 2) := by decide +kernel
theorem dL_law__36 : decode cL_law_ 36 = .ok (.iaload, 1) := by decide +kernel
theorem dL_law__37 : decode cL_law_ 37 = .ok (.bipush 63, 2) := by decide +kernel
theorem dL_law__39 : decode cL_law_ 39 = .ok (.iand, 1) := by decide +kernel
theorem dL_law__40 : decode cL_law_ 40 = .ok (.tableswitch 2715 0 48 #[212, 285, 310, 354, 398, 411, 479, 547, 615, 683, 751, 819, 899, 979, 992, 1048, 1116, 1129, 1185, 1253, 1316, 1357, 1437, 1505, 1518, 1574, 1658, 1671, 1684, 1697, 1793, 1868, 1936, 1992, 2005, 2046, 2142, 2198, 2239, 2295, 2308, 2392, 2476, 2560, 2628, 2653, 2666, 2677, 2690], 212) := by decide +kernel
theorem dL_law__252 : decode cL_law_ 252 = .ok (.aload_n 1, 1) := by decide +kernel
theorem dL_law__253 : decode cL_law_ 253 = .ok (.aload_n 0, 1) := by decide +kernel
theorem dL_law__254 : decode cL_law_ 254 = .ok (.iload 4, 2) := by decide +kernel
theorem dL_law__256 : decode cL_law_ 256 = .ok (.iconst 1, 1) := by decide +kernel
theorem dL_law__257 : decode cL_law_ 257 = .ok (.iadd, 1) := by decide +kernel
theorem dL_law__258 : decode cL_law_ 258 = .ok (.iaload, 1) := by decide +kernel
theorem dL_law__259 : decode cL_law_ 259 = .ok (.aload_n 0, 1) := by decide +kernel
theorem dL_law__260 : decode cL_law_ 260 = .ok (.iload 4, 2) := by decide +kernel
theorem dL_law__262 : decode cL_law_ 262 = .ok (.iconst 2, 1) := by decide +kernel
theorem dL_law__263 : decode cL_law_ 263 = .ok (.iadd, 1) := by decide +kernel
theorem dL_law__264 : decode cL_law_ 264 = .ok (.iaload, 1) := by decide +kernel
theorem dL_law__265 : decode cL_law_ 265 = .ok (.aload_n 0, 1) := by decide +kernel
theorem dL_law__266 : decode cL_law_ 266 = .ok (.iload 4, 2) := by decide +kernel
theorem dL_law__268 : decode cL_law_ 268 = .ok (.iconst 3, 1) := by decide +kernel
theorem dL_law__269 : decode cL_law_ 269 = .ok (.iadd, 1) := by decide +kernel
theorem dL_law__270 : decode cL_law_ 270 = .ok (.iaload, 1) := by decide +kernel
theorem dL_law__271 : decode cL_law_ 271 = .ok (.aload_n 0, 1) := by decide +kernel
theorem dL_law__272 : decode cL_law_ 272 = .ok (.iload 4, 2) := by decide +kernel
theorem dL_law__274 : decode cL_law_ 274 = .ok (.iconst 4, 1) := by decide +kernel
theorem dL_law__275 : decode cL_law_ 275 = .ok (.iadd, 1) := by decide +kernel
theorem dL_law__276 : decode cL_law_ 276 = .ok (.iaload, 1) := by decide +kernel
theorem dL_law__277 : decode cL_law_ 277 = .ok (.aload_n 0, 1) := by decide +kernel
theorem dL_law__278 : decode cL_law_ 278 = .ok (.iload 4, 2) := by decide +kernel
theorem dL_law__280 : decode cL_law_ 280 = .ok (.iconst 5, 1) := by decide +kernel
theorem dL_law__281 : decode cL_law_ 281 = .ok (.iadd, 1) := by decide +kernel
theorem dL_law__282 : decode cL_law_ 282 = .ok (.iaload, 1) := by decide +kernel
theorem dL_law__283 : decode cL_law_ 283 = .ok (.invokevirtual 121, 3) := by decide +kernel
theorem dL_law__286 : decode cL_law_ 286 = .ok (.aload_n 2, 1) := by decide +kernel
theorem dL_law__287 : decode cL_law_ 287 = .ok (.aload_n 0, 1) := by decide +kernel
theorem dL_law__288 : decode cL_law_ 288 = .ok (.iload 4, 2) := by decide +kernel
theorem dL_law__290 : decode cL_law_ 290 = .ok (.iconst 1, 1) := by decide +kernel
theorem dL_law__291 : decode cL_law_ 291 = .ok (.iadd, 1) := by decide +kernel
theorem dL_law__292 : decode cL_law_ 292 = .ok (.iaload, 1) := by decide +kernel
theorem dL_law__293 : decode cL_law_ 293 = .ok (.aload_n 0, 1) := by decide +kernel
theorem dL_law__294 : decode cL_law_ 294 = .ok (.iload 4, 2) := by decide +kernel
theorem dL_law__296 : decode cL_law_ 296 = .ok (.iconst 2, 1) := by decide +kernel
theorem dL_law__297 : decode cL_law_ 297 = .ok (.iadd, 1) := by decide +kernel
theorem dL_law__298 : decode cL_law_ 298 = .ok (.iaload, 1) := by decide +kernel
theorem dL_law__299 : decode cL_law_ 299 = .ok (.aload_n 0, 1) := by decide +kernel
theorem dL_law__300 : decode cL_law_ 300 = .ok (.iload 4, 2) := by decide +kernel
theorem dL_law__302 : decode cL_law_ 302 = .ok (.iconst 3, 1) := by decide +kernel
theorem dL_law__303 : decode cL_law_ 303 = .ok (.iadd, 1) := by decide +kernel
theorem dL_law__304 : decode cL_law_ 304 = .ok (.iaload, 1) := by decide +kernel
theorem dL_law__305 : decode cL_law_ 305 = .ok (.aload_n 0, 1) := by decide +kernel
theorem dL_law__306 : decode cL_law_ 306 = .ok (.iload 4, 2) := by decide +kernel
theorem dL_law__308 : decode cL_law_ 308 = .ok (.iconst 4, 1) := by decide +kernel
theorem dL_law__309 : decode cL_law_ 309 = .ok (.iadd, 1) := by decide +kernel
theorem dL_law__310 : decode cL_law_ 310 = .ok (.iaload, 1) := by decide +kernel
theorem dL_law__311 : decode cL_law_ 311 = .ok (.aload_n 0, 1) := by decide +kernel
theorem dL_law__312 : decode cL_law_ 312 = .ok (.iload 4, 2) := by decide +kernel
theorem dL_law__314 : decode cL_law_ 314 = .ok (.iconst 5, 1) := by decide +kernel
theorem dL_law__315 : decode cL_law_ 315 = .ok (.iadd, 1) := by decide +kernel
theorem dL_law__316 : decode cL_law_ 316 = .ok (.iaload, 1) := by decide +kernel
theorem dL_law__317 : decode cL_law_ 317 = .ok (.invokevirtual 125, 3) := by decide +kernel
theorem dL_law__320 : decode cL_law_ 320 = .ok (.if_icmp .eq 2435, 3) := by decide +kernel
theorem dL_law__323 : decode cL_law_ 323 = .ok (.iconst 0, 1) := by decide +kernel
theorem dL_law__324 : decode cL_law_ 324 = .ok (.ireturn, 1) := by decide +kernel
theorem dL_law__325 : decode cL_law_ 325 = .ok (.aload_n 1, 1) := by decide +kernel
theorem dL_law__326 : decode cL_law_ 326 = .ok (.aload_n 0, 1) := by decide +kernel
theorem dL_law__327 : decode cL_law_ 327 = .ok (.iload 4, 2) := by decide +kernel
theorem dL_law__329 : decode cL_law_ 329 = .ok (.iconst 1, 1) := by decide +kernel
theorem dL_law__330 : decode cL_law_ 330 = .ok (.iadd, 1) := by decide +kernel
theorem dL_law__331 : decode cL_law_ 331 = .ok (.iaload, 1) := by decide +kernel
theorem dL_law__332 : decode cL_law_ 332 = .ok (.invokevirtual 126, 3) := by decide +kernel
theorem dL_law__335 : decode cL_law_ 335 = .ok (.aload_n 2, 1) := by decide +kernel
theorem dL_law__336 : decode cL_law_ 336 = .ok (.aload_n 0, 1) := by decide +kernel
theorem dL_law__337 : decode cL_law_ 337 = .ok (.iload 4, 2) := by decide +kernel
theorem dL_law__339 : decode cL_law_ 339 = .ok (.iconst 1, 1) := by decide +kernel
theorem dL_law__340 : decode cL_law_ 340 = .ok (.iadd, 1) := by decide +kernel
theorem dL_law__341 : decode cL_law_ 341 = .ok (.iaload, 1) := by decide +kernel
theorem dL_law__342 : decode cL_law_ 342 = .ok (.invokevirtual 129, 3) := by decide +kernel
theorem dL_law__345 : decode cL_law_ 345 = .ok (.if_icmp .eq 2410, 3) := by decide +kernel
theorem dL_law__348 : decode cL_law_ 348 = .ok (.iconst 0, 1) := by decide +kernel
theorem dL_law__349 : decode cL_law_ 349 = .ok (.ireturn, 1) := by decide +kernel
theorem dL_law__350 : decode cL_law_ 350 = .ok (.aload_n 1, 1) := by decide +kernel
theorem dL_law__351 : decode cL_law_ 351 = .ok (.aload_n 3, 1) := by decide +kernel
theorem dL_law__352 : decode cL_law_ 352 = .ok (.invokestatic 130, 3) := by decide +kernel
theorem dL_law__355 : decode cL_law_ 355 = .ok (.istore 5, 2) := by decide +kernel
theorem dL_law__357 : decode cL_law_ 357 = .ok (.aload_n 2, 1) := by decide +kernel
theorem dL_law__358 : decode cL_law_ 358 = .ok (.invokevirtual 135, 3) := by decide +kernel
theorem dL_law__361 : decode cL_law_ 361 = .ok (.istore 6, 2) := by decide +kernel
theorem dL_law__363 : decode cL_law_ 363 = .ok (.aload_n 2, 1) := by decide +kernel
theorem dL_law__364 : decode cL_law_ 364 = .ok (.invokevirtual 136, 3) := by decide +kernel
theorem dL_law__367 : decode cL_law_ 367 = .ok (.iload 5, 2) := by decide +kernel
theorem dL_law__369 : decode cL_law_ 369 = .ok (.if_icmp .eq 5, 3) := by decide +kernel
theorem dL_law__372 : decode cL_law_ 372 = .ok (.iconst 0, 1) := by decide +kernel
theorem dL_law__373 : decode cL_law_ 373 = .ok (.ireturn, 1) := by decide +kernel
theorem dL_law__374 : decode cL_law_ 374 = .ok (.iload 5, 2) := by decide +kernel
theorem dL_law__376 : decode cL_law_ 376 = .ok (.ifCond .ne 15, 3) := by decide +kernel
theorem dL_law__379 : decode cL_law_ 379 = .ok (.aload_n 3, 1) := by decide +kernel
theorem dL_law__380 : decode cL_law_ 380 = .ok (.iconst 0, 1) := by decide +kernel
theorem dL_law__381 : decode cL_law_ 381 = .ok (.laload, 1) := by decide +kernel
theorem dL_law__382 : decode cL_law_ 382 = .ok (.iload 6, 2) := by decide +kernel
theorem dL_law__384 : decode cL_law_ 384 = .ok (.i2l, 1) := by decide +kernel
theorem dL_law__385 : decode cL_law_ 385 = .ok (.lcmp, 1) := by decide +kernel
theorem dL_law__386 : decode cL_law_ 386 = .ok (.ifCond .eq 5, 3) := by decide +kernel
theorem dL_law__389 : decode cL_law_ 389 = .ok (.iconst 0, 1) := by decide +kernel
theorem dL_law__390 : decode cL_law_ 390 = .ok (.ireturn, 1) := by decide +kernel
theorem dL_law__391 : decode cL_law_ 391 = .ok (.goto 2364, 3) := by decide +kernel
theorem dL_law__394 : decode cL_law_ 394 = .ok (.aload_n 1, 1) := by decide +kernel
theorem dL_law__395 : decode cL_law_ 395 = .ok (.aload_n 3, 1) := by decide +kernel
theorem dL_law__396 : decode cL_law_ 396 = .ok (.invokestatic 139, 3) := by decide +kernel
theorem dL_law__399 : decode cL_law_ 399 = .ok (.istore 5, 2) := by decide +kernel
theorem dL_law__401 : decode cL_law_ 401 = .ok (.aload_n 2, 1) := by decide +kernel
theorem dL_law__402 : decode cL_law_ 402 = .ok (.invokevirtual 141, 3) := by decide +kernel
theorem dL_law__405 : decode cL_law_ 405 = .ok (.istore 6, 2) := by decide +kernel
theorem dL_law__407 : decode cL_law_ 407 = .ok (.aload_n 2, 1) := by decide +kernel
theorem dL_law__408 : decode cL_law_ 408 = .ok (.invokevirtual 136, 3) := by decide +kernel
theorem dL_law__411 : decode cL_law_ 411 = .ok (.iload 5, 2) := by decide +kernel
theorem dL_law__413 : decode cL_law_ 413 = .ok (.if_icmp .eq 5, 3) := by decide +kernel
theorem dL_law__416 : decode cL_law_ 416 = .ok (.iconst 0, 1) := by decide +kernel
theorem dL_law__417 : decode cL_law_ 417 = .ok (.ireturn, 1) := by decide +kernel
theorem dL_law__418 : decode cL_law_ 418 = .ok (.iload 5, 2) := by decide +kernel
theorem dL_law__420 : decode cL_law_ 420 = .ok (.ifCond .ne 15, 3) := by decide +kernel
theorem dL_law__423 : decode cL_law_ 423 = .ok (.aload_n 3, 1) := by decide +kernel
theorem dL_law__424 : decode cL_law_ 424 = .ok (.iconst 0, 1) := by decide +kernel
theorem dL_law__425 : decode cL_law_ 425 = .ok (.laload, 1) := by decide +kernel
theorem dL_law__426 : decode cL_law_ 426 = .ok (.iload 6, 2) := by decide +kernel
theorem dL_law__428 : decode cL_law_ 428 = .ok (.i2l, 1) := by decide +kernel
theorem dL_law__429 : decode cL_law_ 429 = .ok (.lcmp, 1) := by decide +kernel
theorem dL_law__430 : decode cL_law_ 430 = .ok (.ifCond .eq 5, 3) := by decide +kernel
theorem dL_law__433 : decode cL_law_ 433 = .ok (.iconst 0, 1) := by decide +kernel
theorem dL_law__434 : decode cL_law_ 434 = .ok (.ireturn, 1) := by decide +kernel
theorem dL_law__435 : decode cL_law_ 435 = .ok (.goto 2320, 3) := by decide +kernel
theorem dL_law__438 : decode cL_law_ 438 = .ok (.aload_n 1, 1) := by decide +kernel
theorem dL_law__439 : decode cL_law_ 439 = .ok (.invokevirtual 142, 3) := by decide +kernel
theorem dL_law__442 : decode cL_law_ 442 = .ok (.aload_n 2, 1) := by decide +kernel
theorem dL_law__443 : decode cL_law_ 443 = .ok (.invokevirtual 145, 3) := by decide +kernel
theorem dL_law__446 : decode cL_law_ 446 = .ok (.if_icmp .eq 2309, 3) := by decide +kernel
theorem dL_law__449 : decode cL_law_ 449 = .ok (.iconst 0, 1) := by decide +kernel
theorem dL_law__450 : decode cL_law_ 450 = .ok (.ireturn, 1) := by decide +kernel
theorem dL_law__451 : decode cL_law_ 451 = .ok (.aload_n 1, 1) := by decide +kernel
theorem dL_law__452 : decode cL_law_ 452 = .ok (.aload_n 0, 1) := by decide +kernel
theorem dL_law__453 : decode cL_law_ 453 = .ok (.iload 4, 2) := by decide +kernel
theorem dL_law__455 : decode cL_law_ 455 = .ok (.iconst 1, 1) := by decide +kernel
theorem dL_law__456 : decode cL_law_ 456 = .ok (.iadd, 1) := by decide +kernel
theorem dL_law__457 : decode cL_law_ 457 = .ok (.iaload, 1) := by decide +kernel
theorem dL_law__458 : decode cL_law_ 458 = .ok (.aload_n 0, 1) := by decide +kernel
theorem dL_law__459 : decode cL_law_ 459 = .ok (.iload 4, 2) := by decide +kernel
theorem dL_law__461 : decode cL_law_ 461 = .ok (.iconst 2, 1) := by decide +kernel
theorem dL_law__462 : decode cL_law_ 462 = .ok (.iadd, 1) := by decide +kernel
theorem dL_law__463 : decode cL_law_ 463 = .ok (.iaload, 1) := by decide +kernel
theorem dL_law__464 : decode cL_law_ 464 = .ok (.aload_n 3, 1) := by decide +kernel
theorem dL_law__465 : decode cL_law_ 465 = .ok (.invokestatic 146, 3) := by decide +kernel
theorem dL_law__468 : decode cL_law_ 468 = .ok (.istore 5, 2) := by decide +kernel
theorem dL_law__470 : decode cL_law_ 470 = .ok (.aload_n 2, 1) := by decide +kernel
theorem dL_law__471 : decode cL_law_ 471 = .ok (.aload_n 0, 1) := by decide +kernel
theorem dL_law__472 : decode cL_law_ 472 = .ok (.iload 4, 2) := by decide +kernel
theorem dL_law__474 : decode cL_law_ 474 = .ok (.iconst 1, 1) := by decide +kernel
theorem dL_law__475 : decode cL_law_ 475 = .ok (.iadd, 1) := by decide +kernel
theorem dL_law__476 : decode cL_law_ 476 = .ok (.iaload, 1) := by decide +kernel
theorem dL_law__477 : decode cL_law_ 477 = .ok (.aload_n 0, 1) := by decide +kernel
theorem dL_law__478 : decode cL_law_ 478 = .ok (.iload 4, 2) := by decide +kernel
theorem dL_law__480 : decode cL_law_ 480 = .ok (.iconst 2, 1) := by decide +kernel
theorem dL_law__481 : decode cL_law_ 481 = .ok (.iadd, 1) := by decide +kernel
theorem dL_law__482 : decode cL_law_ 482 = .ok (.iaload, 1) := by decide +kernel
theorem dL_law__483 : decode cL_law_ 483 = .ok (.invokevirtual 149, 3) := by decide +kernel
theorem dL_law__486 : decode cL_law_ 486 = .ok (.istore 6, 2) := by decide +kernel
theorem dL_law__488 : decode cL_law_ 488 = .ok (.aload_n 2, 1) := by decide +kernel
theorem dL_law__489 : decode cL_law_ 489 = .ok (.invokevirtual 136, 3) := by decide +kernel
theorem dL_law__492 : decode cL_law_ 492 = .ok (.iload 5, 2) := by decide +kernel
theorem dL_law__494 : decode cL_law_ 494 = .ok (.if_icmp .eq 5, 3) := by decide +kernel
theorem dL_law__497 : decode cL_law_ 497 = .ok (.iconst 0, 1) := by decide +kernel
theorem dL_law__498 : decode cL_law_ 498 = .ok (.ireturn, 1) := by decide +kernel
theorem dL_law__499 : decode cL_law_ 499 = .ok (.iload 5, 2) := by decide +kernel
theorem dL_law__501 : decode cL_law_ 501 = .ok (.ifCond .ne 15, 3) := by decide +kernel
theorem dL_law__504 : decode cL_law_ 504 = .ok (.aload_n 3, 1) := by decide +kernel
theorem dL_law__505 : decode cL_law_ 505 = .ok (.iconst 0, 1) := by decide +kernel
theorem dL_law__506 : decode cL_law_ 506 = .ok (.laload, 1) := by decide +kernel
theorem dL_law__507 : decode cL_law_ 507 = .ok (.iload 6, 2) := by decide +kernel
theorem dL_law__509 : decode cL_law_ 509 = .ok (.i2l, 1) := by decide +kernel
theorem dL_law__510 : decode cL_law_ 510 = .ok (.lcmp, 1) := by decide +kernel
theorem dL_law__511 : decode cL_law_ 511 = .ok (.ifCond .eq 5, 3) := by decide +kernel
theorem dL_law__514 : decode cL_law_ 514 = .ok (.iconst 0, 1) := by decide +kernel
theorem dL_law__515 : decode cL_law_ 515 = .ok (.ireturn, 1) := by decide +kernel
theorem dL_law__516 : decode cL_law_ 516 = .ok (.goto 2239, 3) := by decide +kernel
theorem dL_law__519 : decode cL_law_ 519 = .ok (.aload_n 1, 1) := by decide +kernel
theorem dL_law__520 : decode cL_law_ 520 = .ok (.aload_n 0, 1) := by decide +kernel
theorem dL_law__521 : decode cL_law_ 521 = .ok (.iload 4, 2) := by decide +kernel
theorem dL_law__523 : decode cL_law_ 523 = .ok (.iconst 1, 1) := by decide +kernel
theorem dL_law__524 : decode cL_law_ 524 = .ok (.iadd, 1) := by decide +kernel
theorem dL_law__525 : decode cL_law_ 525 = .ok (.iaload, 1) := by decide +kernel
theorem dL_law__526 : decode cL_law_ 526 = .ok (.aload_n 0, 1) := by decide +kernel
theorem dL_law__527 : decode cL_law_ 527 = .ok (.iload 4, 2) := by decide +kernel
theorem dL_law__529 : decode cL_law_ 529 = .ok (.iconst 2, 1) := by decide +kernel
theorem dL_law__530 : decode cL_law_ 530 = .ok (.iadd, 1) := by decide +kernel
theorem dL_law__531 : decode cL_law_ 531 = .ok (.iaload, 1) := by decide +kernel
theorem dL_law__532 : decode cL_law_ 532 = .ok (.aload_n 3, 1) := by decide +kernel
theorem dL_law__533 : decode cL_law_ 533 = .ok (.invokestatic 150, 3) := by decide +kernel
theorem dL_law__536 : decode cL_law_ 536 = .ok (.istore 5, 2) := by decide +kernel
theorem dL_law__538 : decode cL_law_ 538 = .ok (.aload_n 2, 1) := by decide +kernel
theorem dL_law__539 : decode cL_law_ 539 = .ok (.aload_n 0, 1) := by decide +kernel
theorem dL_law__540 : decode cL_law_ 540 = .ok (.iload 4, 2) := by decide +kernel
theorem dL_law__542 : decode cL_law_ 542 = .ok (.iconst 1, 1) := by decide +kernel
theorem dL_law__543 : decode cL_law_ 543 = .ok (.iadd, 1) := by decide +kernel
theorem dL_law__544 : decode cL_law_ 544 = .ok (.iaload, 1) := by decide +kernel
theorem dL_law__545 : decode cL_law_ 545 = .ok (.aload_n 0, 1) := by decide +kernel
theorem dL_law__546 : decode cL_law_ 546 = .ok (.iload 4, 2) := by decide +kernel
theorem dL_law__548 : decode cL_law_ 548 = .ok (.iconst 2, 1) := by decide +kernel
theorem dL_law__549 : decode cL_law_ 549 = .ok (.iadd, 1) := by decide +kernel
theorem dL_law__550 : decode cL_law_ 550 = .ok (.iaload, 1) := by decide +kernel
theorem dL_law__551 : decode cL_law_ 551 = .ok (.invokevirtual 152, 3) := by decide +kernel
theorem dL_law__554 : decode cL_law_ 554 = .ok (.istore 6, 2) := by decide +kernel
theorem dL_law__556 : decode cL_law_ 556 = .ok (.aload_n 2, 1) := by decide +kernel
theorem dL_law__557 : decode cL_law_ 557 = .ok (.invokevirtual 136, 3) := by decide +kernel
theorem dL_law__560 : decode cL_law_ 560 = .ok (.iload 5, 2) := by decide +kernel
theorem dL_law__562 : decode cL_law_ 562 = .ok (.if_icmp .eq 5, 3) := by decide +kernel
theorem dL_law__565 : decode cL_law_ 565 = .ok (.iconst 0, 1) := by decide +kernel
theorem dL_law__566 : decode cL_law_ 566 = .ok (.ireturn, 1) := by decide +kernel
theorem dL_law__567 : decode cL_law_ 567 = .ok (.iload 5, 2) := by decide +kernel
theorem dL_law__569 : decode cL_law_ 569 = .ok (.ifCond .ne 15, 3) := by decide +kernel
theorem dL_law__572 : decode cL_law_ 572 = .ok (.aload_n 3, 1) := by decide +kernel
theorem dL_law__573 : decode cL_law_ 573 = .ok (.iconst 0, 1) := by decide +kernel
theorem dL_law__574 : decode cL_law_ 574 = .ok (.laload, 1) := by decide +kernel
theorem dL_law__575 : decode cL_law_ 575 = .ok (.iload 6, 2) := by decide +kernel
theorem dL_law__577 : decode cL_law_ 577 = .ok (.i2l, 1) := by decide +kernel
theorem dL_law__578 : decode cL_law_ 578 = .ok (.lcmp, 1) := by decide +kernel
theorem dL_law__579 : decode cL_law_ 579 = .ok (.ifCond .eq 5, 3) := by decide +kernel
theorem dL_law__582 : decode cL_law_ 582 = .ok (.iconst 0, 1) := by decide +kernel
theorem dL_law__583 : decode cL_law_ 583 = .ok (.ireturn, 1) := by decide +kernel
theorem dL_law__584 : decode cL_law_ 584 = .ok (.goto 2171, 3) := by decide +kernel
theorem dL_law__587 : decode cL_law_ 587 = .ok (.aload_n 1, 1) := by decide +kernel
theorem dL_law__588 : decode cL_law_ 588 = .ok (.aload_n 0, 1) := by decide +kernel
theorem dL_law__589 : decode cL_law_ 589 = .ok (.iload 4, 2) := by decide +kernel
theorem dL_law__591 : decode cL_law_ 591 = .ok (.iconst 1, 1) := by decide +kernel
theorem dL_law__592 : decode cL_law_ 592 = .ok (.iadd, 1) := by decide +kernel
theorem dL_law__593 : decode cL_law_ 593 = .ok (.iaload, 1) := by decide +kernel
theorem dL_law__594 : decode cL_law_ 594 = .ok (.aload_n 0, 1) := by decide +kernel
theorem dL_law__595 : decode cL_law_ 595 = .ok (.iload 4, 2) := by decide +kernel
theorem dL_law__597 : decode cL_law_ 597 = .ok (.iconst 2, 1) := by decide +kernel
theorem dL_law__598 : decode cL_law_ 598 = .ok (.iadd, 1) := by decide +kernel
theorem dL_law__599 : decode cL_law_ 599 = .ok (.iaload, 1) := by decide +kernel
theorem dL_law__600 : decode cL_law_ 600 = .ok (.aload_n 3, 1) := by decide +kernel
theorem dL_law__601 : decode cL_law_ 601 = .ok (.invokestatic 153, 3) := by decide +kernel
theorem dL_law__604 : decode cL_law_ 604 = .ok (.istore 5, 2) := by decide +kernel
theorem dL_law__606 : decode cL_law_ 606 = .ok (.aload_n 2, 1) := by decide +kernel
theorem dL_law__607 : decode cL_law_ 607 = .ok (.aload_n 0, 1) := by decide +kernel
theorem dL_law__608 : decode cL_law_ 608 = .ok (.iload 4, 2) := by decide +kernel
theorem dL_law__610 : decode cL_law_ 610 = .ok (.iconst 1, 1) := by decide +kernel
theorem dL_law__611 : decode cL_law_ 611 = .ok (.iadd, 1) := by decide +kernel
theorem dL_law__612 : decode cL_law_ 612 = .ok (.iaload, 1) := by decide +kernel
theorem dL_law__613 : decode cL_law_ 613 = .ok (.aload_n 0, 1) := by decide +kernel
theorem dL_law__614 : decode cL_law_ 614 = .ok (.iload 4, 2) := by decide +kernel
theorem dL_law__616 : decode cL_law_ 616 = .ok (.iconst 2, 1) := by decide +kernel
theorem dL_law__617 : decode cL_law_ 617 = .ok (.iadd, 1) := by decide +kernel
theorem dL_law__618 : decode cL_law_ 618 = .ok (.iaload, 1) := by decide +kernel
theorem dL_law__619 : decode cL_law_ 619 = .ok (.invokevirtual 155, 3) := by decide +kernel
theorem dL_law__622 : decode cL_law_ 622 = .ok (.istore 6, 2) := by decide +kernel
theorem dL_law__624 : decode cL_law_ 624 = .ok (.aload_n 2, 1) := by decide +kernel
theorem dL_law__625 : decode cL_law_ 625 = .ok (.invokevirtual 136, 3) := by decide +kernel
theorem dL_law__628 : decode cL_law_ 628 = .ok (.iload 5, 2) := by decide +kernel
theorem dL_law__630 : decode cL_law_ 630 = .ok (.if_icmp .eq 5, 3) := by decide +kernel
theorem dL_law__633 : decode cL_law_ 633 = .ok (.iconst 0, 1) := by decide +kernel
theorem dL_law__634 : decode cL_law_ 634 = .ok (.ireturn, 1) := by decide +kernel
theorem dL_law__635 : decode cL_law_ 635 = .ok (.iload 5, 2) := by decide +kernel
theorem dL_law__637 : decode cL_law_ 637 = .ok (.ifCond .ne 15, 3) := by decide +kernel
theorem dL_law__640 : decode cL_law_ 640 = .ok (.aload_n 3, 1) := by decide +kernel
theorem dL_law__641 : decode cL_law_ 641 = .ok (.iconst 0, 1) := by decide +kernel
theorem dL_law__642 : decode cL_law_ 642 = .ok (.laload, 1) := by decide +kernel
theorem dL_law__643 : decode cL_law_ 643 = .ok (.iload 6, 2) := by decide +kernel
theorem dL_law__645 : decode cL_law_ 645 = .ok (.i2l, 1) := by decide +kernel
theorem dL_law__646 : decode cL_law_ 646 = .ok (.lcmp, 1) := by decide +kernel
theorem dL_law__647 : decode cL_law_ 647 = .ok (.ifCond .eq 5, 3) := by decide +kernel
theorem dL_law__650 : decode cL_law_ 650 = .ok (.iconst 0, 1) := by decide +kernel
theorem dL_law__651 : decode cL_law_ 651 = .ok (.ireturn, 1) := by decide +kernel
theorem dL_law__652 : decode cL_law_ 652 = .ok (.goto 2103, 3) := by decide +kernel
theorem dL_law__655 : decode cL_law_ 655 = .ok (.aload_n 1, 1) := by decide +kernel
theorem dL_law__656 : decode cL_law_ 656 = .ok (.aload_n 0, 1) := by decide +kernel
theorem dL_law__657 : decode cL_law_ 657 = .ok (.iload 4, 2) := by decide +kernel
theorem dL_law__659 : decode cL_law_ 659 = .ok (.iconst 1, 1) := by decide +kernel
theorem dL_law__660 : decode cL_law_ 660 = .ok (.iadd, 1) := by decide +kernel
theorem dL_law__661 : decode cL_law_ 661 = .ok (.iaload, 1) := by decide +kernel
theorem dL_law__662 : decode cL_law_ 662 = .ok (.aload_n 0, 1) := by decide +kernel
theorem dL_law__663 : decode cL_law_ 663 = .ok (.iload 4, 2) := by decide +kernel
theorem dL_law__665 : decode cL_law_ 665 = .ok (.iconst 2, 1) := by decide +kernel
theorem dL_law__666 : decode cL_law_ 666 = .ok (.iadd, 1) := by decide +kernel
theorem dL_law__667 : decode cL_law_ 667 = .ok (.iaload, 1) := by decide +kernel
theorem dL_law__668 : decode cL_law_ 668 = .ok (.aload_n 3, 1) := by decide +kernel
theorem dL_law__669 : decode cL_law_ 669 = .ok (.invokestatic 156, 3) := by decide +kernel
theorem dL_law__672 : decode cL_law_ 672 = .ok (.istore 5, 2) := by decide +kernel
theorem dL_law__674 : decode cL_law_ 674 = .ok (.aload_n 2, 1) := by decide +kernel
theorem dL_law__675 : decode cL_law_ 675 = .ok (.aload_n 0, 1) := by decide +kernel
theorem dL_law__676 : decode cL_law_ 676 = .ok (.iload 4, 2) := by decide +kernel
theorem dL_law__678 : decode cL_law_ 678 = .ok (.iconst 1, 1) := by decide +kernel
theorem dL_law__679 : decode cL_law_ 679 = .ok (.iadd, 1) := by decide +kernel
theorem dL_law__680 : decode cL_law_ 680 = .ok (.iaload, 1) := by decide +kernel
theorem dL_law__681 : decode cL_law_ 681 = .ok (.aload_n 0, 1) := by decide +kernel
theorem dL_law__682 : decode cL_law_ 682 = .ok (.iload 4, 2) := by decide +kernel
theorem dL_law__684 : decode cL_law_ 684 = .ok (.iconst 2, 1) := by decide +kernel
theorem dL_law__685 : decode cL_law_ 685 = .ok (.iadd, 1) := by decide +kernel
theorem dL_law__686 : decode cL_law_ 686 = .ok (.iaload, 1) := by decide +kernel
theorem dL_law__687 : decode cL_law_ 687 = .ok (.invokevirtual 158, 3) := by decide +kernel
theorem dL_law__690 : decode cL_law_ 690 = .ok (.istore 6, 2) := by decide +kernel
theorem dL_law__692 : decode cL_law_ 692 = .ok (.aload_n 2, 1) := by decide +kernel
theorem dL_law__693 : decode cL_law_ 693 = .ok (.invokevirtual 136, 3) := by decide +kernel
theorem dL_law__696 : decode cL_law_ 696 = .ok (.iload 5, 2) := by decide +kernel
theorem dL_law__698 : decode cL_law_ 698 = .ok (.if_icmp .eq 5, 3) := by decide +kernel
theorem dL_law__701 : decode cL_law_ 701 = .ok (.iconst 0, 1) := by decide +kernel
theorem dL_law__702 : decode cL_law_ 702 = .ok (.ireturn, 1) := by decide +kernel
theorem dL_law__703 : decode cL_law_ 703 = .ok (.iload 5, 2) := by decide +kernel
theorem dL_law__705 : decode cL_law_ 705 = .ok (.ifCond .ne 15, 3) := by decide +kernel
theorem dL_law__708 : decode cL_law_ 708 = .ok (.aload_n 3, 1) := by decide +kernel
theorem dL_law__709 : decode cL_law_ 709 = .ok (.iconst 0, 1) := by decide +kernel
theorem dL_law__710 : decode cL_law_ 710 = .ok (.laload, 1) := by decide +kernel
theorem dL_law__711 : decode cL_law_ 711 = .ok (.iload 6, 2) := by decide +kernel
theorem dL_law__713 : decode cL_law_ 713 = .ok (.i2l, 1) := by decide +kernel
theorem dL_law__714 : decode cL_law_ 714 = .ok (.lcmp, 1) := by decide +kernel
theorem dL_law__715 : decode cL_law_ 715 = .ok (.ifCond .eq 5, 3) := by decide +kernel
theorem dL_law__718 : decode cL_law_ 718 = .ok (.iconst 0, 1) := by decide +kernel
theorem dL_law__719 : decode cL_law_ 719 = .ok (.ireturn, 1) := by decide +kernel
theorem dL_law__720 : decode cL_law_ 720 = .ok (.goto 2035, 3) := by decide +kernel
theorem dL_law__723 : decode cL_law_ 723 = .ok (.aload_n 1, 1) := by decide +kernel
theorem dL_law__724 : decode cL_law_ 724 = .ok (.aload_n 0, 1) := by decide +kernel
theorem dL_law__725 : decode cL_law_ 725 = .ok (.iload 4, 2) := by decide +kernel
theorem dL_law__727 : decode cL_law_ 727 = .ok (.iconst 1, 1) := by decide +kernel
theorem dL_law__728 : decode cL_law_ 728 = .ok (.iadd, 1) := by decide +kernel
theorem dL_law__729 : decode cL_law_ 729 = .ok (.iaload, 1) := by decide +kernel
theorem dL_law__730 : decode cL_law_ 730 = .ok (.aload_n 0, 1) := by decide +kernel
theorem dL_law__731 : decode cL_law_ 731 = .ok (.iload 4, 2) := by decide +kernel
theorem dL_law__733 : decode cL_law_ 733 = .ok (.iconst 2, 1) := by decide +kernel
theorem dL_law__734 : decode cL_law_ 734 = .ok (.iadd, 1) := by decide +kernel
theorem dL_law__735 : decode cL_law_ 735 = .ok (.iaload, 1) := by decide +kernel
theorem dL_law__736 : decode cL_law_ 736 = .ok (.aload_n 3, 1) := by decide +kernel
theorem dL_law__737 : decode cL_law_ 737 = .ok (.invokestatic 159, 3) := by decide +kernel
theorem dL_law__740 : decode cL_law_ 740 = .ok (.istore 5, 2) := by decide +kernel
theorem dL_law__742 : decode cL_law_ 742 = .ok (.aload_n 2, 1) := by decide +kernel
theorem dL_law__743 : decode cL_law_ 743 = .ok (.aload_n 0, 1) := by decide +kernel
theorem dL_law__744 : decode cL_law_ 744 = .ok (.iload 4, 2) := by decide +kernel
theorem dL_law__746 : decode cL_law_ 746 = .ok (.iconst 1, 1) := by decide +kernel
theorem dL_law__747 : decode cL_law_ 747 = .ok (.iadd, 1) := by decide +kernel
theorem dL_law__748 : decode cL_law_ 748 = .ok (.iaload, 1) := by decide +kernel
theorem dL_law__749 : decode cL_law_ 749 = .ok (.aload_n 0, 1) := by decide +kernel
theorem dL_law__750 : decode cL_law_ 750 = .ok (.iload 4, 2) := by decide +kernel
theorem dL_law__752 : decode cL_law_ 752 = .ok (.iconst 2, 1) := by decide +kernel
theorem dL_law__753 : decode cL_law_ 753 = .ok (.iadd, 1) := by decide +kernel
theorem dL_law__754 : decode cL_law_ 754 = .ok (.iaload, 1) := by decide +kernel
theorem dL_law__755 : decode cL_law_ 755 = .ok (.invokevirtual 161, 3) := by decide +kernel
theorem dL_law__758 : decode cL_law_ 758 = .ok (.istore 6, 2) := by decide +kernel
theorem dL_law__760 : decode cL_law_ 760 = .ok (.aload_n 2, 1) := by decide +kernel
theorem dL_law__761 : decode cL_law_ 761 = .ok (.invokevirtual 136, 3) := by decide +kernel
theorem dL_law__764 : decode cL_law_ 764 = .ok (.iload 5, 2) := by decide +kernel
theorem dL_law__766 : decode cL_law_ 766 = .ok (.if_icmp .eq 5, 3) := by decide +kernel
theorem dL_law__769 : decode cL_law_ 769 = .ok (.iconst 0, 1) := by decide +kernel
theorem dL_law__770 : decode cL_law_ 770 = .ok (.ireturn, 1) := by decide +kernel
theorem dL_law__771 : decode cL_law_ 771 = .ok (.iload 5, 2) := by decide +kernel
theorem dL_law__773 : decode cL_law_ 773 = .ok (.ifCond .ne 15, 3) := by decide +kernel
theorem dL_law__776 : decode cL_law_ 776 = .ok (.aload_n 3, 1) := by decide +kernel
theorem dL_law__777 : decode cL_law_ 777 = .ok (.iconst 0, 1) := by decide +kernel
theorem dL_law__778 : decode cL_law_ 778 = .ok (.laload, 1) := by decide +kernel
theorem dL_law__779 : decode cL_law_ 779 = .ok (.iload 6, 2) := by decide +kernel
theorem dL_law__781 : decode cL_law_ 781 = .ok (.i2l, 1) := by decide +kernel
theorem dL_law__782 : decode cL_law_ 782 = .ok (.lcmp, 1) := by decide +kernel
theorem dL_law__783 : decode cL_law_ 783 = .ok (.ifCond .eq 5, 3) := by decide +kernel
theorem dL_law__786 : decode cL_law_ 786 = .ok (.iconst 0, 1) := by decide +kernel
theorem dL_law__787 : decode cL_law_ 787 = .ok (.ireturn, 1) := by decide +kernel
theorem dL_law__788 : decode cL_law_ 788 = .ok (.goto 1967, 3) := by decide +kernel
theorem dL_law__791 : decode cL_law_ 791 = .ok (.aload_n 1, 1) := by decide +kernel
theorem dL_law__792 : decode cL_law_ 792 = .ok (.aload_n 0, 1) := by decide +kernel
theorem dL_law__793 : decode cL_law_ 793 = .ok (.iload 4, 2) := by decide +kernel
theorem dL_law__795 : decode cL_law_ 795 = .ok (.iconst 1, 1) := by decide +kernel
theorem dL_law__796 : decode cL_law_ 796 = .ok (.iadd, 1) := by decide +kernel
theorem dL_law__797 : decode cL_law_ 797 = .ok (.iaload, 1) := by decide +kernel
theorem dL_law__798 : decode cL_law_ 798 = .ok (.aload_n 0, 1) := by decide +kernel
theorem dL_law__799 : decode cL_law_ 799 = .ok (.iload 4, 2) := by decide +kernel
theorem dL_law__801 : decode cL_law_ 801 = .ok (.iconst 2, 1) := by decide +kernel
theorem dL_law__802 : decode cL_law_ 802 = .ok (.iadd, 1) := by decide +kernel
theorem dL_law__803 : decode cL_law_ 803 = .ok (.iaload, 1) := by decide +kernel
theorem dL_law__804 : decode cL_law_ 804 = .ok (.aload_n 3, 1) := by decide +kernel
theorem dL_law__805 : decode cL_law_ 805 = .ok (.invokestatic 162, 3) := by decide +kernel
theorem dL_law__808 : decode cL_law_ 808 = .ok (.istore 5, 2) := by decide +kernel
theorem dL_law__810 : decode cL_law_ 810 = .ok (.aload_n 2, 1) := by decide +kernel
theorem dL_law__811 : decode cL_law_ 811 = .ok (.aload_n 0, 1) := by decide +kernel
theorem dL_law__812 : decode cL_law_ 812 = .ok (.iload 4, 2) := by decide +kernel
theorem dL_law__814 : decode cL_law_ 814 = .ok (.iconst 1, 1) := by decide +kernel
theorem dL_law__815 : decode cL_law_ 815 = .ok (.iadd, 1) := by decide +kernel
theorem dL_law__816 : decode cL_law_ 816 = .ok (.iaload, 1) := by decide +kernel
theorem dL_law__817 : decode cL_law_ 817 = .ok (.aload_n 0, 1) := by decide +kernel
theorem dL_law__818 : decode cL_law_ 818 = .ok (.iload 4, 2) := by decide +kernel
theorem dL_law__820 : decode cL_law_ 820 = .ok (.iconst 2, 1) := by decide +kernel
theorem dL_law__821 : decode cL_law_ 821 = .ok (.iadd, 1) := by decide +kernel
theorem dL_law__822 : decode cL_law_ 822 = .ok (.iaload, 1) := by decide +kernel
theorem dL_law__823 : decode cL_law_ 823 = .ok (.invokevirtual 164, 3) := by decide +kernel
theorem dL_law__826 : decode cL_law_ 826 = .ok (.istore 6, 2) := by decide +kernel
theorem dL_law__828 : decode cL_law_ 828 = .ok (.aload_n 2, 1) := by decide +kernel
theorem dL_law__829 : decode cL_law_ 829 = .ok (.invokevirtual 136, 3) := by decide +kernel
theorem dL_law__832 : decode cL_law_ 832 = .ok (.iload 5, 2) := by decide +kernel
theorem dL_law__834 : decode cL_law_ 834 = .ok (.if_icmp .eq 5, 3) := by decide +kernel
theorem dL_law__837 : decode cL_law_ 837 = .ok (.iconst 0, 1) := by decide +kernel
theorem dL_law__838 : decode cL_law_ 838 = .ok (.ireturn, 1) := by decide +kernel
theorem dL_law__839 : decode cL_law_ 839 = .ok (.iload 5, 2) := by decide +kernel
theorem dL_law__841 : decode cL_law_ 841 = .ok (.ifCond .ne 15, 3) := by decide +kernel
theorem dL_law__844 : decode cL_law_ 844 = .ok (.aload_n 3, 1) := by decide +kernel
theorem dL_law__845 : decode cL_law_ 845 = .ok (.iconst 0, 1) := by decide +kernel
theorem dL_law__846 : decode cL_law_ 846 = .ok (.laload, 1) := by decide +kernel
theorem dL_law__847 : decode cL_law_ 847 = .ok (.iload 6, 2) := by decide +kernel
theorem dL_law__849 : decode cL_law_ 849 = .ok (.i2l, 1) := by decide +kernel
theorem dL_law__850 : decode cL_law_ 850 = .ok (.lcmp, 1) := by decide +kernel
theorem dL_law__851 : decode cL_law_ 851 = .ok (.ifCond .eq 5, 3) := by decide +kernel
theorem dL_law__854 : decode cL_law_ 854 = .ok (.iconst 0, 1) := by decide +kernel
theorem dL_law__855 : decode cL_law_ 855 = .ok (.ireturn, 1) := by decide +kernel
theorem dL_law__856 : decode cL_law_ 856 = .ok (.goto 1899, 3) := by decide +kernel
theorem dL_law__859 : decode cL_law_ 859 = .ok (.aload_n 1, 1) := by decide +kernel
theorem dL_law__860 : decode cL_law_ 860 = .ok (.aload_n 0, 1) := by decide +kernel
theorem dL_law__861 : decode cL_law_ 861 = .ok (.iload 4, 2) := by decide +kernel
theorem dL_law__863 : decode cL_law_ 863 = .ok (.iconst 1, 1) := by decide +kernel
theorem dL_law__864 : decode cL_law_ 864 = .ok (.iadd, 1) := by decide +kernel
theorem dL_law__865 : decode cL_law_ 865 = .ok (.iaload, 1) := by decide +kernel
theorem dL_law__866 : decode cL_law_ 866 = .ok (.aload_n 0, 1) := by decide +kernel
theorem dL_law__867 : decode cL_law_ 867 = .ok (.iload 4, 2) := by decide +kernel
theorem dL_law__869 : decode cL_law_ 869 = .ok (.iconst 2, 1) := by decide +kernel
theorem dL_law__870 : decode cL_law_ 870 = .ok (.iadd, 1) := by decide +kernel
theorem dL_law__871 : decode cL_law_ 871 = .ok (.iaload, 1) := by decide +kernel
theorem dL_law__872 : decode cL_law_ 872 = .ok (.aload_n 0, 1) := by decide +kernel
theorem dL_law__873 : decode cL_law_ 873 = .ok (.iload 4, 2) := by decide +kernel
theorem dL_law__875 : decode cL_law_ 875 = .ok (.iconst 3, 1) := by decide +kernel
theorem dL_law__876 : decode cL_law_ 876 = .ok (.iadd, 1) := by decide +kernel
theorem dL_law__877 : decode cL_law_ 877 = .ok (.iaload, 1) := by decide +kernel
theorem dL_law__878 : decode cL_law_ 878 = .ok (.aload_n 3, 1) := by decide +kernel
theorem dL_law__879 : decode cL_law_ 879 = .ok (.invokestatic 165, 3) := by decide +kernel
theorem dL_law__882 : decode cL_law_ 882 = .ok (.istore 5, 2) := by decide +kernel
theorem dL_law__884 : decode cL_law_ 884 = .ok (.aload_n 2, 1) := by decide +kernel
theorem dL_law__885 : decode cL_law_ 885 = .ok (.aload_n 0, 1) := by decide +kernel
theorem dL_law__886 : decode cL_law_ 886 = .ok (.iload 4, 2) := by decide +kernel
theorem dL_law__888 : decode cL_law_ 888 = .ok (.iconst 1, 1) := by decide +kernel
theorem dL_law__889 : decode cL_law_ 889 = .ok (.iadd, 1) := by decide +kernel
theorem dL_law__890 : decode cL_law_ 890 = .ok (.iaload, 1) := by decide +kernel
theorem dL_law__891 : decode cL_law_ 891 = .ok (.aload_n 0, 1) := by decide +kernel
theorem dL_law__892 : decode cL_law_ 892 = .ok (.iload 4, 2) := by decide +kernel
theorem dL_law__894 : decode cL_law_ 894 = .ok (.iconst 2, 1) := by decide +kernel
theorem dL_law__895 : decode cL_law_ 895 = .ok (.iadd, 1) := by decide +kernel
theorem dL_law__896 : decode cL_law_ 896 = .ok (.iaload, 1) := by decide +kernel
theorem dL_law__897 : decode cL_law_ 897 = .ok (.aload_n 0, 1) := by decide +kernel
theorem dL_law__898 : decode cL_law_ 898 = .ok (.iload 4, 2) := by decide +kernel
theorem dL_law__900 : decode cL_law_ 900 = .ok (.iconst 3, 1) := by decide +kernel
theorem dL_law__901 : decode cL_law_ 901 = .ok (.iadd, 1) := by decide +kernel
theorem dL_law__902 : decode cL_law_ 902 = .ok (.iaload, 1) := by decide +kernel
theorem dL_law__903 : decode cL_law_ 903 = .ok (.invokevirtual 168, 3) := by decide +kernel
theorem dL_law__906 : decode cL_law_ 906 = .ok (.istore 6, 2) := by decide +kernel
theorem dL_law__908 : decode cL_law_ 908 = .ok (.aload_n 2, 1) := by decide +kernel
theorem dL_law__909 : decode cL_law_ 909 = .ok (.invokevirtual 136, 3) := by decide +kernel
theorem dL_law__912 : decode cL_law_ 912 = .ok (.iload 5, 2) := by decide +kernel
theorem dL_law__914 : decode cL_law_ 914 = .ok (.if_icmp .eq 5, 3) := by decide +kernel
theorem dL_law__917 : decode cL_law_ 917 = .ok (.iconst 0, 1) := by decide +kernel
theorem dL_law__918 : decode cL_law_ 918 = .ok (.ireturn, 1) := by decide +kernel
theorem dL_law__919 : decode cL_law_ 919 = .ok (.iload 5, 2) := by decide +kernel
theorem dL_law__921 : decode cL_law_ 921 = .ok (.ifCond .ne 15, 3) := by decide +kernel
theorem dL_law__924 : decode cL_law_ 924 = .ok (.aload_n 3, 1) := by decide +kernel
theorem dL_law__925 : decode cL_law_ 925 = .ok (.iconst 0, 1) := by decide +kernel
theorem dL_law__926 : decode cL_law_ 926 = .ok (.laload, 1) := by decide +kernel
theorem dL_law__927 : decode cL_law_ 927 = .ok (.iload 6, 2) := by decide +kernel
theorem dL_law__929 : decode cL_law_ 929 = .ok (.i2l, 1) := by decide +kernel
theorem dL_law__930 : decode cL_law_ 930 = .ok (.lcmp, 1) := by decide +kernel
theorem dL_law__931 : decode cL_law_ 931 = .ok (.ifCond .eq 5, 3) := by decide +kernel
theorem dL_law__934 : decode cL_law_ 934 = .ok (.iconst 0, 1) := by decide +kernel
theorem dL_law__935 : decode cL_law_ 935 = .ok (.ireturn, 1) := by decide +kernel
theorem dL_law__936 : decode cL_law_ 936 = .ok (.goto 1819, 3) := by decide +kernel
theorem dL_law__939 : decode cL_law_ 939 = .ok (.aload_n 1, 1) := by decide +kernel
theorem dL_law__940 : decode cL_law_ 940 = .ok (.aload_n 0, 1) := by decide +kernel
theorem dL_law__941 : decode cL_law_ 941 = .ok (.iload 4, 2) := by decide +kernel
theorem dL_law__943 : decode cL_law_ 943 = .ok (.iconst 1, 1) := by decide +kernel
theorem dL_law__944 : decode cL_law_ 944 = .ok (.iadd, 1) := by decide +kernel
theorem dL_law__945 : decode cL_law_ 945 = .ok (.iaload, 1) := by decide +kernel
theorem dL_law__946 : decode cL_law_ 946 = .ok (.aload_n 0, 1) := by decide +kernel
theorem dL_law__947 : decode cL_law_ 947 = .ok (.iload 4, 2) := by decide +kernel
theorem dL_law__949 : decode cL_law_ 949 = .ok (.iconst 2, 1) := by decide +kernel
theorem dL_law__950 : decode cL_law_ 950 = .ok (.iadd, 1) := by decide +kernel
theorem dL_law__951 : decode cL_law_ 951 = .ok (.iaload, 1) := by decide +kernel
theorem dL_law__952 : decode cL_law_ 952 = .ok (.aload_n 0, 1) := by decide +kernel
theorem dL_law__953 : decode cL_law_ 953 = .ok (.iload 4, 2) := by decide +kernel
theorem dL_law__955 : decode cL_law_ 955 = .ok (.iconst 3, 1) := by decide +kernel
theorem dL_law__956 : decode cL_law_ 956 = .ok (.iadd, 1) := by decide +kernel
theorem dL_law__957 : decode cL_law_ 957 = .ok (.iaload, 1) := by decide +kernel
theorem dL_law__958 : decode cL_law_ 958 = .ok (.aload_n 3, 1) := by decide +kernel
theorem dL_law__959 : decode cL_law_ 959 = .ok (.invokestatic 169, 3) := by decide +kernel
theorem dL_law__962 : decode cL_law_ 962 = .ok (.istore 5, 2) := by decide +kernel
theorem dL_law__964 : decode cL_law_ 964 = .ok (.aload_n 2, 1) := by decide +kernel
theorem dL_law__965 : decode cL_law_ 965 = .ok (.aload_n 0, 1) := by decide +kernel
theorem dL_law__966 : decode cL_law_ 966 = .ok (.iload 4, 2) := by decide +kernel
theorem dL_law__968 : decode cL_law_ 968 = .ok (.iconst 1, 1) := by decide +kernel
theorem dL_law__969 : decode cL_law_ 969 = .ok (.iadd, 1) := by decide +kernel
theorem dL_law__970 : decode cL_law_ 970 = .ok (.iaload, 1) := by decide +kernel
theorem dL_law__971 : decode cL_law_ 971 = .ok (.aload_n 0, 1) := by decide +kernel
theorem dL_law__972 : decode cL_law_ 972 = .ok (.iload 4, 2) := by decide +kernel
theorem dL_law__974 : decode cL_law_ 974 = .ok (.iconst 2, 1) := by decide +kernel
theorem dL_law__975 : decode cL_law_ 975 = .ok (.iadd, 1) := by decide +kernel
theorem dL_law__976 : decode cL_law_ 976 = .ok (.iaload, 1) := by decide +kernel
theorem dL_law__977 : decode cL_law_ 977 = .ok (.aload_n 0, 1) := by decide +kernel
theorem dL_law__978 : decode cL_law_ 978 = .ok (.iload 4, 2) := by decide +kernel
theorem dL_law__980 : decode cL_law_ 980 = .ok (.iconst 3, 1) := by decide +kernel
theorem dL_law__981 : decode cL_law_ 981 = .ok (.iadd, 1) := by decide +kernel
theorem dL_law__982 : decode cL_law_ 982 = .ok (.iaload, 1) := by decide +kernel
theorem dL_law__983 : decode cL_law_ 983 = .ok (.invokevirtual 171, 3) := by decide +kernel
theorem dL_law__986 : decode cL_law_ 986 = .ok (.istore 6, 2) := by decide +kernel
theorem dL_law__988 : decode cL_law_ 988 = .ok (.aload_n 2, 1) := by decide +kernel
theorem dL_law__989 : decode cL_law_ 989 = .ok (.invokevirtual 136, 3) := by decide +kernel
theorem dL_law__992 : decode cL_law_ 992 = .ok (.iload 5, 2) := by decide +kernel
theorem dL_law__994 : decode cL_law_ 994 = .ok (.if_icmp .eq 5, 3) := by decide +kernel
theorem dL_law__997 : decode cL_law_ 997 = .ok (.iconst 0, 1) := by decide +kernel
theorem dL_law__998 : decode cL_law_ 998 = .ok (.ireturn, 1) := by decide +kernel
theorem dL_law__999 : decode cL_law_ 999 = .ok (.iload 5, 2) := by decide +kernel
theorem dL_law__1001 : decode cL_law_ 1001 = .ok (.ifCond .ne 15, 3) := by decide +kernel
theorem dL_law__1004 : decode cL_law_ 1004 = .ok (.aload_n 3, 1) := by decide +kernel
theorem dL_law__1005 : decode cL_law_ 1005 = .ok (.iconst 0, 1) := by decide +kernel
theorem dL_law__1006 : decode cL_law_ 1006 = .ok (.laload, 1) := by decide +kernel
theorem dL_law__1007 : decode cL_law_ 1007 = .ok (.iload 6, 2) := by decide +kernel
theorem dL_law__1009 : decode cL_law_ 1009 = .ok (.i2l, 1) := by decide +kernel
theorem dL_law__1010 : decode cL_law_ 1010 = .ok (.lcmp, 1) := by decide +kernel
theorem dL_law__1011 : decode cL_law_ 1011 = .ok (.ifCond .eq 5, 3) := by decide +kernel
theorem dL_law__1014 : decode cL_law_ 1014 = .ok (.iconst 0, 1) := by decide +kernel
theorem dL_law__1015 : decode cL_law_ 1015 = .ok (.ireturn, 1) := by decide +kernel
theorem dL_law__1016 : decode cL_law_ 1016 = .ok (.goto 1739, 3) := by decide +kernel
theorem dL_law__1019 : decode cL_law_ 1019 = .ok (.aload_n 1, 1) := by decide +kernel
theorem dL_law__1020 : decode cL_law_ 1020 = .ok (.invokevirtual 172, 3) := by decide +kernel
theorem dL_law__1023 : decode cL_law_ 1023 = .ok (.aload_n 2, 1) := by decide +kernel
theorem dL_law__1024 : decode cL_law_ 1024 = .ok (.invokevirtual 175, 3) := by decide +kernel
theorem dL_law__1027 : decode cL_law_ 1027 = .ok (.if_icmp .eq 1728, 3) := by decide +kernel
theorem dL_law__1030 : decode cL_law_ 1030 = .ok (.iconst 0, 1) := by decide +kernel
theorem dL_law__1031 : decode cL_law_ 1031 = .ok (.ireturn, 1) := by decide +kernel
theorem dL_law__1032 : decode cL_law_ 1032 = .ok (.aload_n 1, 1) := by decide +kernel
theorem dL_law__1033 : decode cL_law_ 1033 = .ok (.aload_n 0, 1) := by decide +kernel
theorem dL_law__1034 : decode cL_law_ 1034 = .ok (.iload 4, 2) := by decide +kernel
theorem dL_law__1036 : decode cL_law_ 1036 = .ok (.iconst 1, 1) := by decide +kernel
theorem dL_law__1037 : decode cL_law_ 1037 = .ok (.iadd, 1) := by decide +kernel
theorem dL_law__1038 : decode cL_law_ 1038 = .ok (.iaload, 1) := by decide +kernel
theorem dL_law__1039 : decode cL_law_ 1039 = .ok (.aload_n 3, 1) := by decide +kernel
theorem dL_law__1040 : decode cL_law_ 1040 = .ok (.invokestatic 176, 3) := by decide +kernel
theorem dL_law__1043 : decode cL_law_ 1043 = .ok (.istore 5, 2) := by decide +kernel
theorem dL_law__1045 : decode cL_law_ 1045 = .ok (.aload_n 2, 1) := by decide +kernel
theorem dL_law__1046 : decode cL_law_ 1046 = .ok (.aload_n 0, 1) := by decide +kernel
theorem dL_law__1047 : decode cL_law_ 1047 = .ok (.iload 4, 2) := by decide +kernel
theorem dL_law__1049 : decode cL_law_ 1049 = .ok (.iconst 1, 1) := by decide +kernel
theorem dL_law__1050 : decode cL_law_ 1050 = .ok (.iadd, 1) := by decide +kernel
theorem dL_law__1051 : decode cL_law_ 1051 = .ok (.iaload, 1) := by decide +kernel
theorem dL_law__1052 : decode cL_law_ 1052 = .ok (.invokevirtual 179, 3) := by decide +kernel
theorem dL_law__1055 : decode cL_law_ 1055 = .ok (.istore 6, 2) := by decide +kernel
theorem dL_law__1057 : decode cL_law_ 1057 = .ok (.aload_n 2, 1) := by decide +kernel
theorem dL_law__1058 : decode cL_law_ 1058 = .ok (.invokevirtual 136, 3) := by decide +kernel
theorem dL_law__1061 : decode cL_law_ 1061 = .ok (.iload 5, 2) := by decide +kernel
theorem dL_law__1063 : decode cL_law_ 1063 = .ok (.if_icmp .eq 5, 3) := by decide +kernel
theorem dL_law__1066 : decode cL_law_ 1066 = .ok (.iconst 0, 1) := by decide +kernel
theorem dL_law__1067 : decode cL_law_ 1067 = .ok (.ireturn, 1) := by decide +kernel
theorem dL_law__1068 : decode cL_law_ 1068 = .ok (.iload 5, 2) := by decide +kernel
theorem dL_law__1070 : decode cL_law_ 1070 = .ok (.ifCond .ne 15, 3) := by decide +kernel
theorem dL_law__1073 : decode cL_law_ 1073 = .ok (.aload_n 3, 1) := by decide +kernel
theorem dL_law__1074 : decode cL_law_ 1074 = .ok (.iconst 0, 1) := by decide +kernel
theorem dL_law__1075 : decode cL_law_ 1075 = .ok (.laload, 1) := by decide +kernel
theorem dL_law__1076 : decode cL_law_ 1076 = .ok (.iload 6, 2) := by decide +kernel
theorem dL_law__1078 : decode cL_law_ 1078 = .ok (.i2l, 1) := by decide +kernel
theorem dL_law__1079 : decode cL_law_ 1079 = .ok (.lcmp, 1) := by decide +kernel
theorem dL_law__1080 : decode cL_law_ 1080 = .ok (.ifCond .eq 5, 3) := by decide +kernel
theorem dL_law__1083 : decode cL_law_ 1083 = .ok (.iconst 0, 1) := by decide +kernel
theorem dL_law__1084 : decode cL_law_ 1084 = .ok (.ireturn, 1) := by decide +kernel
theorem dL_law__1085 : decode cL_law_ 1085 = .ok (.goto 1670, 3) := by decide +kernel
theorem dL_law__1088 : decode cL_law_ 1088 = .ok (.aload_n 1, 1) := by decide +kernel
theorem dL_law__1089 : decode cL_law_ 1089 = .ok (.aload_n 0, 1) := by decide +kernel
theorem dL_law__1090 : decode cL_law_ 1090 = .ok (.iload 4, 2) := by decide +kernel
theorem dL_law__1092 : decode cL_law_ 1092 = .ok (.iconst 1, 1) := by decide +kernel
theorem dL_law__1093 : decode cL_law_ 1093 = .ok (.iadd, 1) := by decide +kernel
theorem dL_law__1094 : decode cL_law_ 1094 = .ok (.iaload, 1) := by decide +kernel
theorem dL_law__1095 : decode cL_law_ 1095 = .ok (.aload_n 0, 1) := by decide +kernel
theorem dL_law__1096 : decode cL_law_ 1096 = .ok (.iload 4, 2) := by decide +kernel
theorem dL_law__1098 : decode cL_law_ 1098 = .ok (.iconst 2, 1) := by decide +kernel
theorem dL_law__1099 : decode cL_law_ 1099 = .ok (.iadd, 1) := by decide +kernel
theorem dL_law__1100 : decode cL_law_ 1100 = .ok (.iaload, 1) := by decide +kernel
theorem dL_law__1101 : decode cL_law_ 1101 = .ok (.aload_n 3, 1) := by decide +kernel
theorem dL_law__1102 : decode cL_law_ 1102 = .ok (.invokestatic 180, 3) := by decide +kernel
theorem dL_law__1105 : decode cL_law_ 1105 = .ok (.istore 5, 2) := by decide +kernel
theorem dL_law__1107 : decode cL_law_ 1107 = .ok (.aload_n 2, 1) := by decide +kernel
theorem dL_law__1108 : decode cL_law_ 1108 = .ok (.aload_n 0, 1) := by decide +kernel
theorem dL_law__1109 : decode cL_law_ 1109 = .ok (.iload 4, 2) := by decide +kernel
theorem dL_law__1111 : decode cL_law_ 1111 = .ok (.iconst 1, 1) := by decide +kernel
theorem dL_law__1112 : decode cL_law_ 1112 = .ok (.iadd, 1) := by decide +kernel
theorem dL_law__1113 : decode cL_law_ 1113 = .ok (.iaload, 1) := by decide +kernel
theorem dL_law__1114 : decode cL_law_ 1114 = .ok (.aload_n 0, 1) := by decide +kernel
theorem dL_law__1115 : decode cL_law_ 1115 = .ok (.iload 4, 2) := by decide +kernel
theorem dL_law__1117 : decode cL_law_ 1117 = .ok (.iconst 2, 1) := by decide +kernel
theorem dL_law__1118 : decode cL_law_ 1118 = .ok (.iadd, 1) := by decide +kernel
theorem dL_law__1119 : decode cL_law_ 1119 = .ok (.iaload, 1) := by decide +kernel
theorem dL_law__1120 : decode cL_law_ 1120 = .ok (.invokevirtual 182, 3) := by decide +kernel
theorem dL_law__1123 : decode cL_law_ 1123 = .ok (.istore 6, 2) := by decide +kernel
theorem dL_law__1125 : decode cL_law_ 1125 = .ok (.aload_n 2, 1) := by decide +kernel
theorem dL_law__1126 : decode cL_law_ 1126 = .ok (.invokevirtual 136, 3) := by decide +kernel
theorem dL_law__1129 : decode cL_law_ 1129 = .ok (.iload 5, 2) := by decide +kernel
theorem dL_law__1131 : decode cL_law_ 1131 = .ok (.if_icmp .eq 5, 3) := by decide +kernel
theorem dL_law__1134 : decode cL_law_ 1134 = .ok (.iconst 0, 1) := by decide +kernel
theorem dL_law__1135 : decode cL_law_ 1135 = .ok (.ireturn, 1) := by decide +kernel
theorem dL_law__1136 : decode cL_law_ 1136 = .ok (.iload 5, 2) := by decide +kernel
theorem dL_law__1138 : decode cL_law_ 1138 = .ok (.ifCond .ne 15, 3) := by decide +kernel
theorem dL_law__1141 : decode cL_law_ 1141 = .ok (.aload_n 3, 1) := by decide +kernel
theorem dL_law__1142 : decode cL_law_ 1142 = .ok (.iconst 0, 1) := by decide +kernel
theorem dL_law__1143 : decode cL_law_ 1143 = .ok (.laload, 1) := by decide +kernel
theorem dL_law__1144 : decode cL_law_ 1144 = .ok (.iload 6, 2) := by decide +kernel
theorem dL_law__1146 : decode cL_law_ 1146 = .ok (.i2l, 1) := by decide +kernel
theorem dL_law__1147 : decode cL_law_ 1147 = .ok (.lcmp, 1) := by decide +kernel
theorem dL_law__1148 : decode cL_law_ 1148 = .ok (.ifCond .eq 5, 3) := by decide +kernel
theorem dL_law__1151 : decode cL_law_ 1151 = .ok (.iconst 0, 1) := by decide +kernel
theorem dL_law__1152 : decode cL_law_ 1152 = .ok (.ireturn, 1) := by decide +kernel
theorem dL_law__1153 : decode cL_law_ 1153 = .ok (.goto 1602, 3) := by decide +kernel
theorem dL_law__1156 : decode cL_law_ 1156 = .ok (.aload_n 1, 1) := by decide +kernel
theorem dL_law__1157 : decode cL_law_ 1157 = .ok (.invokevirtual 183, 3) := by decide +kernel
theorem dL_law__1160 : decode cL_law_ 1160 = .ok (.aload_n 2, 1) := by decide +kernel
theorem dL_law__1161 : decode cL_law_ 1161 = .ok (.invokevirtual 187, 3) := by decide +kernel
theorem dL_law__1164 : decode cL_law_ 1164 = .ok (.if_icmp .eq 1591, 3) := by decide +kernel
theorem dL_law__1167 : decode cL_law_ 1167 = .ok (.iconst 0, 1) := by decide +kernel
theorem dL_law__1168 : decode cL_law_ 1168 = .ok (.ireturn, 1) := by decide +kernel
theorem dL_law__1169 : decode cL_law_ 1169 = .ok (.aload_n 1, 1) := by decide +kernel
theorem dL_law__1170 : decode cL_law_ 1170 = .ok (.aload_n 0, 1) := by decide +kernel
theorem dL_law__1171 : decode cL_law_ 1171 = .ok (.iload 4, 2) := by decide +kernel
theorem dL_law__1173 : decode cL_law_ 1173 = .ok (.iconst 1, 1) := by decide +kernel
theorem dL_law__1174 : decode cL_law_ 1174 = .ok (.iadd, 1) := by decide +kernel
theorem dL_law__1175 : decode cL_law_ 1175 = .ok (.iaload, 1) := by decide +kernel
theorem dL_law__1176 : decode cL_law_ 1176 = .ok (.aload_n 3, 1) := by decide +kernel
theorem dL_law__1177 : decode cL_law_ 1177 = .ok (.invokestatic 188, 3) := by decide +kernel
theorem dL_law__1180 : decode cL_law_ 1180 = .ok (.istore 5, 2) := by decide +kernel
theorem dL_law__1182 : decode cL_law_ 1182 = .ok (.aload_n 2, 1) := by decide +kernel
theorem dL_law__1183 : decode cL_law_ 1183 = .ok (.aload_n 0, 1) := by decide +kernel
theorem dL_law__1184 : decode cL_law_ 1184 = .ok (.iload 4, 2) := by decide +kernel
theorem dL_law__1186 : decode cL_law_ 1186 = .ok (.iconst 1, 1) := by decide +kernel
theorem dL_law__1187 : decode cL_law_ 1187 = .ok (.iadd, 1) := by decide +kernel
theorem dL_law__1188 : decode cL_law_ 1188 = .ok (.iaload, 1) := by decide +kernel
theorem dL_law__1189 : decode cL_law_ 1189 = .ok (.invokevirtual 190, 3) := by decide +kernel
theorem dL_law__1192 : decode cL_law_ 1192 = .ok (.istore 6, 2) := by decide +kernel
theorem dL_law__1194 : decode cL_law_ 1194 = .ok (.aload_n 2, 1) := by decide +kernel
theorem dL_law__1195 : decode cL_law_ 1195 = .ok (.invokevirtual 136, 3) := by decide +kernel
theorem dL_law__1198 : decode cL_law_ 1198 = .ok (.iload 5, 2) := by decide +kernel
theorem dL_law__1200 : decode cL_law_ 1200 = .ok (.if_icmp .eq 5, 3) := by decide +kernel
theorem dL_law__1203 : decode cL_law_ 1203 = .ok (.iconst 0, 1) := by decide +kernel
theorem dL_law__1204 : decode cL_law_ 1204 = .ok (.ireturn, 1) := by decide +kernel
theorem dL_law__1205 : decode cL_law_ 1205 = .ok (.iload 5, 2) := by decide +kernel
theorem dL_law__1207 : decode cL_law_ 1207 = .ok (.ifCond .ne 15, 3) := by decide +kernel
theorem dL_law__1210 : decode cL_law_ 1210 = .ok (.aload_n 3, 1) := by decide +kernel
theorem dL_law__1211 : decode cL_law_ 1211 = .ok (.iconst 0, 1) := by decide +kernel
theorem dL_law__1212 : decode cL_law_ 1212 = .ok (.laload, 1) := by decide +kernel
theorem dL_law__1213 : decode cL_law_ 1213 = .ok (.iload 6, 2) := by decide +kernel
theorem dL_law__1215 : decode cL_law_ 1215 = .ok (.i2l, 1) := by decide +kernel
theorem dL_law__1216 : decode cL_law_ 1216 = .ok (.lcmp, 1) := by decide +kernel
theorem dL_law__1217 : decode cL_law_ 1217 = .ok (.ifCond .eq 5, 3) := by decide +kernel
theorem dL_law__1220 : decode cL_law_ 1220 = .ok (.iconst 0, 1) := by decide +kernel
theorem dL_law__1221 : decode cL_law_ 1221 = .ok (.ireturn, 1) := by decide +kernel
theorem dL_law__1222 : decode cL_law_ 1222 = .ok (.goto 1533, 3) := by decide +kernel
theorem dL_law__1225 : decode cL_law_ 1225 = .ok (.aload_n 1, 1) := by decide +kernel
theorem dL_law__1226 : decode cL_law_ 1226 = .ok (.aload_n 0, 1) := by decide +kernel
theorem dL_law__1227 : decode cL_law_ 1227 = .ok (.iload 4, 2) := by decide +kernel
theorem dL_law__1229 : decode cL_law_ 1229 = .ok (.iconst 1, 1) := by decide +kernel
theorem dL_law__1230 : decode cL_law_ 1230 = .ok (.iadd, 1) := by decide +kernel
theorem dL_law__1231 : decode cL_law_ 1231 = .ok (.iaload, 1) := by decide +kernel
theorem dL_law__1232 : decode cL_law_ 1232 = .ok (.aload_n 0, 1) := by decide +kernel
theorem dL_law__1233 : decode cL_law_ 1233 = .ok (.iload 4, 2) := by decide +kernel
theorem dL_law__1235 : decode cL_law_ 1235 = .ok (.iconst 2, 1) := by decide +kernel
theorem dL_law__1236 : decode cL_law_ 1236 = .ok (.iadd, 1) := by decide +kernel
theorem dL_law__1237 : decode cL_law_ 1237 = .ok (.iaload, 1) := by decide +kernel
theorem dL_law__1238 : decode cL_law_ 1238 = .ok (.aload_n 3, 1) := by decide +kernel
theorem dL_law__1239 : decode cL_law_ 1239 = .ok (.invokestatic 191, 3) := by decide +kernel
theorem dL_law__1242 : decode cL_law_ 1242 = .ok (.istore 5, 2) := by decide +kernel
theorem dL_law__1244 : decode cL_law_ 1244 = .ok (.aload_n 2, 1) := by decide +kernel
theorem dL_law__1245 : decode cL_law_ 1245 = .ok (.aload_n 0, 1) := by decide +kernel
theorem dL_law__1246 : decode cL_law_ 1246 = .ok (.iload 4, 2) := by decide +kernel
theorem dL_law__1248 : decode cL_law_ 1248 = .ok (.iconst 1, 1) := by decide +kernel
theorem dL_law__1249 : decode cL_law_ 1249 = .ok (.iadd, 1) := by decide +kernel
theorem dL_law__1250 : decode cL_law_ 1250 = .ok (.iaload, 1) := by decide +kernel
theorem dL_law__1251 : decode cL_law_ 1251 = .ok (.aload_n 0, 1) := by decide +kernel
theorem dL_law__1252 : decode cL_law_ 1252 = .ok (.iload 4, 2) := by decide +kernel
theorem dL_law__1254 : decode cL_law_ 1254 = .ok (.iconst 2, 1) := by decide +kernel
theorem dL_law__1255 : decode cL_law_ 1255 = .ok (.iadd, 1) := by decide +kernel
theorem dL_law__1256 : decode cL_law_ 1256 = .ok (.iaload, 1) := by decide +kernel
theorem dL_law__1257 : decode cL_law_ 1257 = .ok (.invokevirtual 193, 3) := by decide +kernel
theorem dL_law__1260 : decode cL_law_ 1260 = .ok (.istore 6, 2) := by decide +kernel
theorem dL_law__1262 : decode cL_law_ 1262 = .ok (.aload_n 2, 1) := by decide +kernel
theorem dL_law__1263 : decode cL_law_ 1263 = .ok (.invokevirtual 136, 3) := by decide +kernel
theorem dL_law__1266 : decode cL_law_ 1266 = .ok (.iload 5, 2) := by decide +kernel
theorem dL_law__1268 : decode cL_law_ 1268 = .ok (.if_icmp .eq 5, 3) := by decide +kernel
theorem dL_law__1271 : decode cL_law_ 1271 = .ok (.iconst 0, 1) := by decide +kernel
theorem dL_law__1272 : decode cL_law_ 1272 = .ok (.ireturn, 1) := by decide +kernel
theorem dL_law__1273 : decode cL_law_ 1273 = .ok (.iload 5, 2) := by decide +kernel
theorem dL_law__1275 : decode cL_law_ 1275 = .ok (.ifCond .ne 15, 3) := by decide +kernel
theorem dL_law__1278 : decode cL_law_ 1278 = .ok (.aload_n 3, 1) := by decide +kernel
theorem dL_law__1279 : decode cL_law_ 1279 = .ok (.iconst 0, 1) := by decide +kernel
theorem dL_law__1280 : decode cL_law_ 1280 = .ok (.laload, 1) := by decide +kernel
theorem dL_law__1281 : decode cL_law_ 1281 = .ok (.iload 6, 2) := by decide +kernel
theorem dL_law__1283 : decode cL_law_ 1283 = .ok (.i2l, 1) := by decide +kernel
theorem dL_law__1284 : decode cL_law_ 1284 = .ok (.lcmp, 1) := by decide +kernel
theorem dL_law__1285 : decode cL_law_ 1285 = .ok (.ifCond .eq 5, 3) := by decide +kernel
theorem dL_law__1288 : decode cL_law_ 1288 = .ok (.iconst 0, 1) := by decide +kernel
theorem dL_law__1289 : decode cL_law_ 1289 = .ok (.ireturn, 1) := by decide +kernel
theorem dL_law__1290 : decode cL_law_ 1290 = .ok (.goto 1465, 3) := by decide +kernel
theorem dL_law__1293 : decode cL_law_ 1293 = .ok (.aload_n 1, 1) := by decide +kernel
theorem dL_law__1294 : decode cL_law_ 1294 = .ok (.aload_n 0, 1) := by decide +kernel
theorem dL_law__1295 : decode cL_law_ 1295 = .ok (.iload 4, 2) := by decide +kernel
theorem dL_law__1297 : decode cL_law_ 1297 = .ok (.iconst 1, 1) := by decide +kernel
theorem dL_law__1298 : decode cL_law_ 1298 = .ok (.iadd, 1) := by decide +kernel
theorem dL_law__1299 : decode cL_law_ 1299 = .ok (.iaload, 1) := by decide +kernel
theorem dL_law__1300 : decode cL_law_ 1300 = .ok (.aload_n 3, 1) := by decide +kernel
theorem dL_law__1301 : decode cL_law_ 1301 = .ok (.invokestatic 194, 3) := by decide +kernel
theorem dL_law__1304 : decode cL_law_ 1304 = .ok (.istore 5, 2) := by decide +kernel
theorem dL_law__1306 : decode cL_law_ 1306 = .ok (.aload_n 2, 1) := by decide +kernel
theorem dL_law__1307 : decode cL_law_ 1307 = .ok (.aload_n 0, 1) := by decide +kernel
theorem dL_law__1308 : decode cL_law_ 1308 = .ok (.iload 4, 2) := by decide +kernel
theorem dL_law__1310 : decode cL_law_ 1310 = .ok (.iconst 1, 1) := by decide +kernel
theorem dL_law__1311 : decode cL_law_ 1311 = .ok (.iadd, 1) := by decide +kernel
theorem dL_law__1312 : decode cL_law_ 1312 = .ok (.iaload, 1) := by decide +kernel
theorem dL_law__1313 : decode cL_law_ 1313 = .ok (.invokevirtual 196, 3) := by decide +kernel
theorem dL_law__1316 : decode cL_law_ 1316 = .ok (.istore 6, 2) := by decide +kernel
theorem dL_law__1318 : decode cL_law_ 1318 = .ok (.aload_n 2, 1) := by decide +kernel
theorem dL_law__1319 : decode cL_law_ 1319 = .ok (.invokevirtual 136, 3) := by decide +kernel
theorem dL_law__1322 : decode cL_law_ 1322 = .ok (.iload 5, 2) := by decide +kernel
theorem dL_law__1324 : decode cL_law_ 1324 = .ok (.if_icmp .eq 5, 3) := by decide +kernel
theorem dL_law__1327 : decode cL_law_ 1327 = .ok (.iconst 0, 1) := by decide +kernel
theorem dL_law__1328 : decode cL_law_ 1328 = .ok (.ireturn, 1) := by decide +kernel
theorem dL_law__1329 : decode cL_law_ 1329 = .ok (.iload 5, 2) := by decide +kernel
theorem dL_law__1331 : decode cL_law_ 1331 = .ok (.ifCond .ne 22, 3) := by decide +kernel
theorem dL_law__1334 : decode cL_law_ 1334 = .ok (.aload_n 3, 1) := by decide +kernel
theorem dL_law__1335 : decode cL_law_ 1335 = .ok (.iconst 0, 1) := by decide +kernel
theorem dL_law__1336 : decode cL_law_ 1336 = .ok (.laload, 1) := by decide +kernel
theorem dL_law__1337 : decode cL_law_ 1337 = .ok (.iload 6, 2) := by decide +kernel
theorem dL_law__1339 : decode cL_law_ 1339 = .ok (.ifCond .eq 7, 3) := by decide +kernel
theorem dL_law__1342 : decode cL_law_ 1342 = .ok (.lconst 1, 1) := by decide +kernel
theorem dL_law__1343 : decode cL_law_ 1343 = .ok (.goto 4, 3) := by decide +kernel
theorem dL_law__1346 : decode cL_law_ 1346 = .ok (.lconst 0, 1) := by decide +kernel
theorem dL_law__1347 : decode cL_law_ 1347 = .ok (.lcmp, 1) := by decide +kernel
theorem dL_law__1348 : decode cL_law_ 1348 = .ok (.ifCond .eq 5, 3) := by decide +kernel
theorem dL_law__1351 : decode cL_law_ 1351 = .ok (.iconst 0, 1) := by decide +kernel
theorem dL_law__1352 : decode cL_law_ 1352 = .ok (.ireturn, 1) := by decide +kernel
theorem dL_law__1353 : decode cL_law_ 1353 = .ok (.goto 1402, 3) := by decide +kernel
theorem dL_law__1356 : decode cL_law_ 1356 = .ok (.aload_n 1, 1) := by decide +kernel
theorem dL_law__1357 : decode cL_law_ 1357 = .ok (.aload_n 0, 1) := by decide +kernel
theorem dL_law__1358 : decode cL_law_ 1358 = .ok (.iload 4, 2) := by decide +kernel
theorem dL_law__1360 : decode cL_law_ 1360 = .ok (.iconst 1, 1) := by decide +kernel
theorem dL_law__1361 : decode cL_law_ 1361 = .ok (.iadd, 1) := by decide +kernel
theorem dL_law__1362 : decode cL_law_ 1362 = .ok (.iaload, 1) := by decide +kernel
theorem dL_law__1363 : decode cL_law_ 1363 = .ok (.ifCond .eq 7, 3) := by decide +kernel
theorem dL_law__1366 : decode cL_law_ 1366 = .ok (.iconst 1, 1) := by decide +kernel
theorem dL_law__1367 : decode cL_law_ 1367 = .ok (.goto 4, 3) := by decide +kernel
theorem dL_law__1370 : decode cL_law_ 1370 = .ok (.iconst 0, 1) := by decide +kernel
theorem dL_law__1371 : decode cL_law_ 1371 = .ok (.invokevirtual 197, 3) := by decide +kernel
theorem dL_law__1374 : decode cL_law_ 1374 = .ok (.aload_n 2, 1) := by decide +kernel
theorem dL_law__1375 : decode cL_law_ 1375 = .ok (.aload_n 0, 1) := by decide +kernel
theorem dL_law__1376 : decode cL_law_ 1376 = .ok (.iload 4, 2) := by decide +kernel
theorem dL_law__1378 : decode cL_law_ 1378 = .ok (.iconst 1, 1) := by decide +kernel
theorem dL_law__1379 : decode cL_law_ 1379 = .ok (.iadd, 1) := by decide +kernel
theorem dL_law__1380 : decode cL_law_ 1380 = .ok (.iaload, 1) := by decide +kernel
theorem dL_law__1381 : decode cL_law_ 1381 = .ok (.ifCond .eq 7, 3) := by decide +kernel
theorem dL_law__1384 : decode cL_law_ 1384 = .ok (.iconst 1, 1) := by decide +kernel
theorem dL_law__1385 : decode cL_law_ 1385 = .ok (.goto 4, 3) := by decide +kernel
theorem dL_law__1388 : decode cL_law_ 1388 = .ok (.iconst 0, 1) := by decide +kernel
theorem dL_law__1389 : decode cL_law_ 1389 = .ok (.invokevirtual 201, 3) := by decide +kernel
theorem dL_law__1392 : decode cL_law_ 1392 = .ok (.if_icmp .eq 1363, 3) := by decide +kernel
theorem dL_law__1395 : decode cL_law_ 1395 = .ok (.iconst 0, 1) := by decide +kernel
theorem dL_law__1396 : decode cL_law_ 1396 = .ok (.ireturn, 1) := by decide +kernel
theorem dL_law__1397 : decode cL_law_ 1397 = .ok (.aload_n 1, 1) := by decide +kernel
theorem dL_law__1398 : decode cL_law_ 1398 = .ok (.aload_n 0, 1) := by decide +kernel
theorem dL_law__1399 : decode cL_law_ 1399 = .ok (.iload 4, 2) := by decide +kernel
theorem dL_law__1401 : decode cL_law_ 1401 = .ok (.iconst 1, 1) := by decide +kernel
theorem dL_law__1402 : decode cL_law_ 1402 = .ok (.iadd, 1) := by decide +kernel
theorem dL_law__1403 : decode cL_law_ 1403 = .ok (.iaload, 1) := by decide +kernel
theorem dL_law__1404 : decode cL_law_ 1404 = .ok (.aload_n 0, 1) := by decide +kernel
theorem dL_law__1405 : decode cL_law_ 1405 = .ok (.iload 4, 2) := by decide +kernel
theorem dL_law__1407 : decode cL_law_ 1407 = .ok (.iconst 2, 1) := by decide +kernel
theorem dL_law__1408 : decode cL_law_ 1408 = .ok (.iadd, 1) := by decide +kernel
theorem dL_law__1409 : decode cL_law_ 1409 = .ok (.iaload, 1) := by decide +kernel
theorem dL_law__1410 : decode cL_law_ 1410 = .ok (.aload_n 0, 1) := by decide +kernel
theorem dL_law__1411 : decode cL_law_ 1411 = .ok (.iload 4, 2) := by decide +kernel
theorem dL_law__1413 : decode cL_law_ 1413 = .ok (.iconst 3, 1) := by decide +kernel
theorem dL_law__1414 : decode cL_law_ 1414 = .ok (.iadd, 1) := by decide +kernel
theorem dL_law__1415 : decode cL_law_ 1415 = .ok (.iaload, 1) := by decide +kernel
theorem dL_law__1416 : decode cL_law_ 1416 = .ok (.aload_n 3, 1) := by decide +kernel
theorem dL_law__1417 : decode cL_law_ 1417 = .ok (.invokestatic 202, 3) := by decide +kernel
theorem dL_law__1420 : decode cL_law_ 1420 = .ok (.istore 5, 2) := by decide +kernel
theorem dL_law__1422 : decode cL_law_ 1422 = .ok (.aload_n 2, 1) := by decide +kernel
theorem dL_law__1423 : decode cL_law_ 1423 = .ok (.aload_n 0, 1) := by decide +kernel
theorem dL_law__1424 : decode cL_law_ 1424 = .ok (.iload 4, 2) := by decide +kernel
theorem dL_law__1426 : decode cL_law_ 1426 = .ok (.iconst 1, 1) := by decide +kernel
theorem dL_law__1427 : decode cL_law_ 1427 = .ok (.iadd, 1) := by decide +kernel
theorem dL_law__1428 : decode cL_law_ 1428 = .ok (.iaload, 1) := by decide +kernel
theorem dL_law__1429 : decode cL_law_ 1429 = .ok (.aload_n 0, 1) := by decide +kernel
theorem dL_law__1430 : decode cL_law_ 1430 = .ok (.iload 4, 2) := by decide +kernel
theorem dL_law__1432 : decode cL_law_ 1432 = .ok (.iconst 2, 1) := by decide +kernel
theorem dL_law__1433 : decode cL_law_ 1433 = .ok (.iadd, 1) := by decide +kernel
theorem dL_law__1434 : decode cL_law_ 1434 = .ok (.iaload, 1) := by decide +kernel
theorem dL_law__1435 : decode cL_law_ 1435 = .ok (.aload_n 0, 1) := by decide +kernel
theorem dL_law__1436 : decode cL_law_ 1436 = .ok (.iload 4, 2) := by decide +kernel
theorem dL_law__1438 : decode cL_law_ 1438 = .ok (.iconst 3, 1) := by decide +kernel
theorem dL_law__1439 : decode cL_law_ 1439 = .ok (.iadd, 1) := by decide +kernel
theorem dL_law__1440 : decode cL_law_ 1440 = .ok (.iaload, 1) := by decide +kernel
theorem dL_law__1441 : decode cL_law_ 1441 = .ok (.invokevirtual 204, 3) := by decide +kernel
theorem dL_law__1444 : decode cL_law_ 1444 = .ok (.istore 6, 2) := by decide +kernel
theorem dL_law__1446 : decode cL_law_ 1446 = .ok (.aload_n 2, 1) := by decide +kernel
theorem dL_law__1447 : decode cL_law_ 1447 = .ok (.invokevirtual 136, 3) := by decide +kernel
theorem dL_law__1450 : decode cL_law_ 1450 = .ok (.iload 5, 2) := by decide +kernel
theorem dL_law__1452 : decode cL_law_ 1452 = .ok (.if_icmp .eq 5, 3) := by decide +kernel
theorem dL_law__1455 : decode cL_law_ 1455 = .ok (.iconst 0, 1) := by decide +kernel
theorem dL_law__1456 : decode cL_law_ 1456 = .ok (.ireturn, 1) := by decide +kernel
theorem dL_law__1457 : decode cL_law_ 1457 = .ok (.iload 5, 2) := by decide +kernel
theorem dL_law__1459 : decode cL_law_ 1459 = .ok (.ifCond .ne 15, 3) := by decide +kernel
theorem dL_law__1462 : decode cL_law_ 1462 = .ok (.aload_n 3, 1) := by decide +kernel
theorem dL_law__1463 : decode cL_law_ 1463 = .ok (.iconst 0, 1) := by decide +kernel
theorem dL_law__1464 : decode cL_law_ 1464 = .ok (.laload, 1) := by decide +kernel
theorem dL_law__1465 : decode cL_law_ 1465 = .ok (.iload 6, 2) := by decide +kernel
theorem dL_law__1467 : decode cL_law_ 1467 = .ok (.i2l, 1) := by decide +kernel
theorem dL_law__1468 : decode cL_law_ 1468 = .ok (.lcmp, 1) := by decide +kernel
theorem dL_law__1469 : decode cL_law_ 1469 = .ok (.ifCond .eq 5, 3) := by decide +kernel
theorem dL_law__1472 : decode cL_law_ 1472 = .ok (.iconst 0, 1) := by decide +kernel
theorem dL_law__1473 : decode cL_law_ 1473 = .ok (.ireturn, 1) := by decide +kernel
theorem dL_law__1474 : decode cL_law_ 1474 = .ok (.goto 1281, 3) := by decide +kernel
theorem dL_law__1477 : decode cL_law_ 1477 = .ok (.aload_n 1, 1) := by decide +kernel
theorem dL_law__1478 : decode cL_law_ 1478 = .ok (.aload_n 0, 1) := by decide +kernel
theorem dL_law__1479 : decode cL_law_ 1479 = .ok (.iload 4, 2) := by decide +kernel
theorem dL_law__1481 : decode cL_law_ 1481 = .ok (.iconst 1, 1) := by decide +kernel
theorem dL_law__1482 : decode cL_law_ 1482 = .ok (.iadd, 1) := by decide +kernel
theorem dL_law__1483 : decode cL_law_ 1483 = .ok (.iaload, 1) := by decide +kernel
theorem dL_law__1484 : decode cL_law_ 1484 = .ok (.aload_n 0, 1) := by decide +kernel
theorem dL_law__1485 : decode cL_law_ 1485 = .ok (.iload 4, 2) := by decide +kernel
theorem dL_law__1487 : decode cL_law_ 1487 = .ok (.iconst 2, 1) := by decide +kernel
theorem dL_law__1488 : decode cL_law_ 1488 = .ok (.iadd, 1) := by decide +kernel
theorem dL_law__1489 : decode cL_law_ 1489 = .ok (.iaload, 1) := by decide +kernel
theorem dL_law__1490 : decode cL_law_ 1490 = .ok (.aload_n 3, 1) := by decide +kernel
theorem dL_law__1491 : decode cL_law_ 1491 = .ok (.invokestatic 205, 3) := by decide +kernel
theorem dL_law__1494 : decode cL_law_ 1494 = .ok (.istore 5, 2) := by decide +kernel
theorem dL_law__1496 : decode cL_law_ 1496 = .ok (.aload_n 2, 1) := by decide +kernel
theorem dL_law__1497 : decode cL_law_ 1497 = .ok (.aload_n 0, 1) := by decide +kernel
theorem dL_law__1498 : decode cL_law_ 1498 = .ok (.iload 4, 2) := by decide +kernel
theorem dL_law__1500 : decode cL_law_ 1500 = .ok (.iconst 1, 1) := by decide +kernel
theorem dL_law__1501 : decode cL_law_ 1501 = .ok (.iadd, 1) := by decide +kernel
theorem dL_law__1502 : decode cL_law_ 1502 = .ok (.iaload, 1) := by decide +kernel
theorem dL_law__1503 : decode cL_law_ 1503 = .ok (.aload_n 0, 1) := by decide +kernel
theorem dL_law__1504 : decode cL_law_ 1504 = .ok (.iload 4, 2) := by decide +kernel
theorem dL_law__1506 : decode cL_law_ 1506 = .ok (.iconst 2, 1) := by decide +kernel
theorem dL_law__1507 : decode cL_law_ 1507 = .ok (.iadd, 1) := by decide +kernel
theorem dL_law__1508 : decode cL_law_ 1508 = .ok (.iaload, 1) := by decide +kernel
theorem dL_law__1509 : decode cL_law_ 1509 = .ok (.invokevirtual 207, 3) := by decide +kernel
theorem dL_law__1512 : decode cL_law_ 1512 = .ok (.istore 6, 2) := by decide +kernel
theorem dL_law__1514 : decode cL_law_ 1514 = .ok (.aload_n 2, 1) := by decide +kernel
theorem dL_law__1515 : decode cL_law_ 1515 = .ok (.invokevirtual 136, 3) := by decide +kernel
theorem dL_law__1518 : decode cL_law_ 1518 = .ok (.iload 5, 2) := by decide +kernel
theorem dL_law__1520 : decode cL_law_ 1520 = .ok (.if_icmp .eq 5, 3) := by decide +kernel
theorem dL_law__1523 : decode cL_law_ 1523 = .ok (.iconst 0, 1) := by decide +kernel
theorem dL_law__1524 : decode cL_law_ 1524 = .ok (.ireturn, 1) := by decide +kernel
theorem dL_law__1525 : decode cL_law_ 1525 = .ok (.iload 5, 2) := by decide +kernel
theorem dL_law__1527 : decode cL_law_ 1527 = .ok (.ifCond .ne 15, 3) := by decide +kernel
theorem dL_law__1530 : decode cL_law_ 1530 = .ok (.aload_n 3, 1) := by decide +kernel
theorem dL_law__1531 : decode cL_law_ 1531 = .ok (.iconst 0, 1) := by decide +kernel
theorem dL_law__1532 : decode cL_law_ 1532 = .ok (.laload, 1) := by decide +kernel
theorem dL_law__1533 : decode cL_law_ 1533 = .ok (.iload 6, 2) := by decide +kernel
theorem dL_law__1535 : decode cL_law_ 1535 = .ok (.i2l, 1) := by decide +kernel
theorem dL_law__1536 : decode cL_law_ 1536 = .ok (.lcmp, 1) := by decide +kernel
theorem dL_law__1537 : decode cL_law_ 1537 = .ok (.ifCond .eq 5, 3) := by decide +kernel
theorem dL_law__1540 : decode cL_law_ 1540 = .ok (.iconst 0, 1) := by decide +kernel
theorem dL_law__1541 : decode cL_law_ 1541 = .ok (.ireturn, 1) := by decide +kernel
theorem dL_law__1542 : decode cL_law_ 1542 = .ok (.goto 1213, 3) := by decide +kernel
theorem dL_law__1545 : decode cL_law_ 1545 = .ok (.aload_n 1, 1) := by decide +kernel
theorem dL_law__1546 : decode cL_law_ 1546 = .ok (.invokevirtual 208, 3) := by decide +kernel
theorem dL_law__1549 : decode cL_law_ 1549 = .ok (.aload_n 2, 1) := by decide +kernel
theorem dL_law__1550 : decode cL_law_ 1550 = .ok (.invokevirtual 211, 3) := by decide +kernel
theorem dL_law__1553 : decode cL_law_ 1553 = .ok (.if_icmp .eq 1202, 3) := by decide +kernel
theorem dL_law__1556 : decode cL_law_ 1556 = .ok (.iconst 0, 1) := by decide +kernel
theorem dL_law__1557 : decode cL_law_ 1557 = .ok (.ireturn, 1) := by decide +kernel
theorem dL_law__1558 : decode cL_law_ 1558 = .ok (.aload_n 1, 1) := by decide +kernel
theorem dL_law__1559 : decode cL_law_ 1559 = .ok (.aload_n 0, 1) := by decide +kernel
theorem dL_law__1560 : decode cL_law_ 1560 = .ok (.iload 4, 2) := by decide +kernel
theorem dL_law__1562 : decode cL_law_ 1562 = .ok (.iconst 1, 1) := by decide +kernel
theorem dL_law__1563 : decode cL_law_ 1563 = .ok (.iadd, 1) := by decide +kernel
theorem dL_law__1564 : decode cL_law_ 1564 = .ok (.iaload, 1) := by decide +kernel
theorem dL_law__1565 : decode cL_law_ 1565 = .ok (.aload_n 3, 1) := by decide +kernel
theorem dL_law__1566 : decode cL_law_ 1566 = .ok (.invokestatic 212, 3) := by decide +kernel
theorem dL_law__1569 : decode cL_law_ 1569 = .ok (.istore 5, 2) := by decide +kernel
theorem dL_law__1571 : decode cL_law_ 1571 = .ok (.aload_n 2, 1) := by decide +kernel
theorem dL_law__1572 : decode cL_law_ 1572 = .ok (.aload_n 0, 1) := by decide +kernel
theorem dL_law__1573 : decode cL_law_ 1573 = .ok (.iload 4, 2) := by decide +kernel
theorem dL_law__1575 : decode cL_law_ 1575 = .ok (.iconst 1, 1) := by decide +kernel
theorem dL_law__1576 : decode cL_law_ 1576 = .ok (.iadd, 1) := by decide +kernel
theorem dL_law__1577 : decode cL_law_ 1577 = .ok (.iaload, 1) := by decide +kernel
theorem dL_law__1578 : decode cL_law_ 1578 = .ok (.invokevirtual 214, 3) := by decide +kernel
theorem dL_law__1581 : decode cL_law_ 1581 = .ok (.istore 6, 2) := by decide +kernel
theorem dL_law__1583 : decode cL_law_ 1583 = .ok (.aload_n 2, 1) := by decide +kernel
theorem dL_law__1584 : decode cL_law_ 1584 = .ok (.invokevirtual 136, 3) := by decide +kernel
theorem dL_law__1587 : decode cL_law_ 1587 = .ok (.iload 5, 2) := by decide +kernel
theorem dL_law__1589 : decode cL_law_ 1589 = .ok (.if_icmp .eq 5, 3) := by decide +kernel
theorem dL_law__1592 : decode cL_law_ 1592 = .ok (.iconst 0, 1) := by decide +kernel
theorem dL_law__1593 : decode cL_law_ 1593 = .ok (.ireturn, 1) := by decide +kernel
theorem dL_law__1594 : decode cL_law_ 1594 = .ok (.iload 5, 2) := by decide +kernel
theorem dL_law__1596 : decode cL_law_ 1596 = .ok (.ifCond .ne 15, 3) := by decide +kernel
theorem dL_law__1599 : decode cL_law_ 1599 = .ok (.aload_n 3, 1) := by decide +kernel
theorem dL_law__1600 : decode cL_law_ 1600 = .ok (.iconst 0, 1) := by decide +kernel
theorem dL_law__1601 : decode cL_law_ 1601 = .ok (.laload, 1) := by decide +kernel
theorem dL_law__1602 : decode cL_law_ 1602 = .ok (.iload 6, 2) := by decide +kernel
theorem dL_law__1604 : decode cL_law_ 1604 = .ok (.i2l, 1) := by decide +kernel
theorem dL_law__1605 : decode cL_law_ 1605 = .ok (.lcmp, 1) := by decide +kernel
theorem dL_law__1606 : decode cL_law_ 1606 = .ok (.ifCond .eq 5, 3) := by decide +kernel
theorem dL_law__1609 : decode cL_law_ 1609 = .ok (.iconst 0, 1) := by decide +kernel
theorem dL_law__1610 : decode cL_law_ 1610 = .ok (.ireturn, 1) := by decide +kernel
theorem dL_law__1611 : decode cL_law_ 1611 = .ok (.goto 1144, 3) := by decide +kernel
theorem dL_law__1614 : decode cL_law_ 1614 = .ok (.aload_n 1, 1) := by decide +kernel
theorem dL_law__1615 : decode cL_law_ 1615 = .ok (.aload_n 0, 1) := by decide +kernel
theorem dL_law__1616 : decode cL_law_ 1616 = .ok (.iload 4, 2) := by decide +kernel
theorem dL_law__1618 : decode cL_law_ 1618 = .ok (.iconst 1, 1) := by decide +kernel
theorem dL_law__1619 : decode cL_law_ 1619 = .ok (.iadd, 1) := by decide +kernel
theorem dL_law__1620 : decode cL_law_ 1620 = .ok (.iaload, 1) := by decide +kernel
theorem dL_law__1621 : decode cL_law_ 1621 = .ok (.aload_n 0, 1) := by decide +kernel
theorem dL_law__1622 : decode cL_law_ 1622 = .ok (.iload 4, 2) := by decide +kernel
theorem dL_law__1624 : decode cL_law_ 1624 = .ok (.iconst 2, 1) := by decide +kernel
theorem dL_law__1625 : decode cL_law_ 1625 = .ok (.iadd, 1) := by decide +kernel
theorem dL_law__1626 : decode cL_law_ 1626 = .ok (.iaload, 1) := by decide +kernel
theorem dL_law__1627 : decode cL_law_ 1627 = .ok (.ifCond .eq 7, 3) := by decide +kernel
theorem dL_law__1630 : decode cL_law_ 1630 = .ok (.iconst 1, 1) := by decide +kernel
theorem dL_law__1631 : decode cL_law_ 1631 = .ok (.goto 4, 3) := by decide +kernel
theorem dL_law__1634 : decode cL_law_ 1634 = .ok (.iconst 0, 1) := by decide +kernel
theorem dL_law__1635 : decode cL_law_ 1635 = .ok (.aload_n 3, 1) := by decide +kernel
theorem dL_law__1636 : decode cL_law_ 1636 = .ok (.invokestatic 215, 3) := by decide +kernel
theorem dL_law__1639 : decode cL_law_ 1639 = .ok (.istore 5, 2) := by decide +kernel
theorem dL_law__1641 : decode cL_law_ 1641 = .ok (.aload_n 2, 1) := by decide +kernel
theorem dL_law__1642 : decode cL_law_ 1642 = .ok (.aload_n 0, 1) := by decide +kernel
theorem dL_law__1643 : decode cL_law_ 1643 = .ok (.iload 4, 2) := by decide +kernel
theorem dL_law__1645 : decode cL_law_ 1645 = .ok (.iconst 1, 1) := by decide +kernel
theorem dL_law__1646 : decode cL_law_ 1646 = .ok (.iadd, 1) := by decide +kernel
theorem dL_law__1647 : decode cL_law_ 1647 = .ok (.iaload, 1) := by decide +kernel
theorem dL_law__1648 : decode cL_law_ 1648 = .ok (.aload_n 0, 1) := by decide +kernel
theorem dL_law__1649 : decode cL_law_ 1649 = .ok (.iload 4, 2) := by decide +kernel
theorem dL_law__1651 : decode cL_law_ 1651 = .ok (.iconst 2, 1) := by decide +kernel
theorem dL_law__1652 : decode cL_law_ 1652 = .ok (.iadd, 1) := by decide +kernel
theorem dL_law__1653 : decode cL_law_ 1653 = .ok (.iaload, 1) := by decide +kernel
theorem dL_law__1654 : decode cL_law_ 1654 = .ok (.ifCond .eq 7, 3) := by decide +kernel
theorem dL_law__1657 : decode cL_law_ 1657 = .ok (.iconst 1, 1) := by decide +kernel
theorem dL_law__1658 : decode cL_law_ 1658 = .ok (.goto 4, 3) := by decide +kernel
theorem dL_law__1661 : decode cL_law_ 1661 = .ok (.iconst 0, 1) := by decide +kernel
theorem dL_law__1662 : decode cL_law_ 1662 = .ok (.invokevirtual 218, 3) := by decide +kernel
theorem dL_law__1665 : decode cL_law_ 1665 = .ok (.istore 6, 2) := by decide +kernel
theorem dL_law__1667 : decode cL_law_ 1667 = .ok (.aload_n 2, 1) := by decide +kernel
theorem dL_law__1668 : decode cL_law_ 1668 = .ok (.invokevirtual 136, 3) := by decide +kernel
theorem dL_law__1671 : decode cL_law_ 1671 = .ok (.iload 5, 2) := by decide +kernel
theorem dL_law__1673 : decode cL_law_ 1673 = .ok (.if_icmp .eq 5, 3) := by decide +kernel
theorem dL_law__1676 : decode cL_law_ 1676 = .ok (.iconst 0, 1) := by decide +kernel
theorem dL_law__1677 : decode cL_law_ 1677 = .ok (.ireturn, 1) := by decide +kernel
theorem dL_law__1678 : decode cL_law_ 1678 = .ok (.iload 5, 2) := by decide +kernel
theorem dL_law__1680 : decode cL_law_ 1680 = .ok (.ifCond .ne 15, 3) := by decide +kernel
theorem dL_law__1683 : decode cL_law_ 1683 = .ok (.aload_n 3, 1) := by decide +kernel
theorem dL_law__1684 : decode cL_law_ 1684 = .ok (.iconst 0, 1) := by decide +kernel
theorem dL_law__1685 : decode cL_law_ 1685 = .ok (.laload, 1) := by decide +kernel
theorem dL_law__1686 : decode cL_law_ 1686 = .ok (.iload 6, 2) := by decide +kernel
theorem dL_law__1688 : decode cL_law_ 1688 = .ok (.i2l, 1) := by decide +kernel
theorem dL_law__1689 : decode cL_law_ 1689 = .ok (.lcmp, 1) := by decide +kernel
theorem dL_law__1690 : decode cL_law_ 1690 = .ok (.ifCond .eq 5, 3) := by decide +kernel
theorem dL_law__1693 : decode cL_law_ 1693 = .ok (.iconst 0, 1) := by decide +kernel
theorem dL_law__1694 : decode cL_law_ 1694 = .ok (.ireturn, 1) := by decide +kernel
theorem dL_law__1695 : decode cL_law_ 1695 = .ok (.goto 1060, 3) := by decide +kernel
theorem dL_law__1698 : decode cL_law_ 1698 = .ok (.aload_n 1, 1) := by decide +kernel
theorem dL_law__1699 : decode cL_law_ 1699 = .ok (.invokevirtual 219, 3) := by decide +kernel
theorem dL_law__1702 : decode cL_law_ 1702 = .ok (.aload_n 2, 1) := by decide +kernel
theorem dL_law__1703 : decode cL_law_ 1703 = .ok (.invokevirtual 222, 3) := by decide +kernel
theorem dL_law__1706 : decode cL_law_ 1706 = .ok (.if_icmp .eq 1049, 3) := by decide +kernel
theorem dL_law__1709 : decode cL_law_ 1709 = .ok (.iconst 0, 1) := by decide +kernel
theorem dL_law__1710 : decode cL_law_ 1710 = .ok (.ireturn, 1) := by decide +kernel
theorem dL_law__1711 : decode cL_law_ 1711 = .ok (.aload_n 1, 1) := by decide +kernel
theorem dL_law__1712 : decode cL_law_ 1712 = .ok (.invokevirtual 223, 3) := by decide +kernel
theorem dL_law__1715 : decode cL_law_ 1715 = .ok (.aload_n 2, 1) := by decide +kernel
theorem dL_law__1716 : decode cL_law_ 1716 = .ok (.invokevirtual 226, 3) := by decide +kernel
theorem dL_law__1719 : decode cL_law_ 1719 = .ok (.if_icmp .eq 1036, 3) := by decide +kernel
theorem dL_law__1722 : decode cL_law_ 1722 = .ok (.iconst 0, 1) := by decide +kernel
theorem dL_law__1723 : decode cL_law_ 1723 = .ok (.ireturn, 1) := by decide +kernel
theorem dL_law__1724 : decode cL_law_ 1724 = .ok (.aload_n 1, 1) := by decide +kernel
theorem dL_law__1725 : decode cL_law_ 1725 = .ok (.invokevirtual 227, 3) := by decide +kernel
theorem dL_law__1728 : decode cL_law_ 1728 = .ok (.aload_n 2, 1) := by decide +kernel
theorem dL_law__1729 : decode cL_law_ 1729 = .ok (.invokevirtual 230, 3) := by decide +kernel
theorem dL_law__1732 : decode cL_law_ 1732 = .ok (.if_icmp .eq 1023, 3) := by decide +kernel
theorem dL_law__1735 : decode cL_law_ 1735 = .ok (.iconst 0, 1) := by decide +kernel
theorem dL_law__1736 : decode cL_law_ 1736 = .ok (.ireturn, 1) := by decide +kernel
theorem dL_law__1737 : decode cL_law_ 1737 = .ok (.aload_n 1, 1) := by decide +kernel
theorem dL_law__1738 : decode cL_law_ 1738 = .ok (.aload_n 0, 1) := by decide +kernel
theorem dL_law__1739 : decode cL_law_ 1739 = .ok (.iload 4, 2) := by decide +kernel
theorem dL_law__1741 : decode cL_law_ 1741 = .ok (.iconst 1, 1) := by decide +kernel
theorem dL_law__1742 : decode cL_law_ 1742 = .ok (.iadd, 1) := by decide +kernel
theorem dL_law__1743 : decode cL_law_ 1743 = .ok (.iaload, 1) := by decide +kernel
theorem dL_law__1744 : decode cL_law_ 1744 = .ok (.aload_n 0, 1) := by decide +kernel
theorem dL_law__1745 : decode cL_law_ 1745 = .ok (.iload 4, 2) := by decide +kernel
theorem dL_law__1747 : decode cL_law_ 1747 = .ok (.iconst 2, 1) := by decide +kernel
theorem dL_law__1748 : decode cL_law_ 1748 = .ok (.iadd, 1) := by decide +kernel
theorem dL_law__1749 : decode cL_law_ 1749 = .ok (.iaload, 1) := by decide +kernel
theorem dL_law__1750 : decode cL_law_ 1750 = .ok (.aload_n 0, 1) := by decide +kernel
theorem dL_law__1751 : decode cL_law_ 1751 = .ok (.iload 4, 2) := by decide +kernel
theorem dL_law__1753 : decode cL_law_ 1753 = .ok (.iconst 3, 1) := by decide +kernel
theorem dL_law__1754 : decode cL_law_ 1754 = .ok (.iadd, 1) := by decide +kernel
theorem dL_law__1755 : decode cL_law_ 1755 = .ok (.iaload, 1) := by decide +kernel
theorem dL_law__1756 : decode cL_law_ 1756 = .ok (.ifCond .eq 7, 3) := by decide +kernel
theorem dL_law__1759 : decode cL_law_ 1759 = .ok (.iconst 1, 1) := by decide +kernel
theorem dL_law__1760 : decode cL_law_ 1760 = .ok (.goto 4, 3) := by decide +kernel
theorem dL_law__1763 : decode cL_law_ 1763 = .ok (.iconst 0, 1) := by decide +kernel
theorem dL_law__1764 : decode cL_law_ 1764 = .ok (.aload_n 3, 1) := by decide +kernel
theorem dL_law__1765 : decode cL_law_ 1765 = .ok (.invokestatic 231, 3) := by decide +kernel
theorem dL_law__1768 : decode cL_law_ 1768 = .ok (.istore 5, 2) := by decide +kernel
theorem dL_law__1770 : decode cL_law_ 1770 = .ok (.aload_n 2, 1) := by decide +kernel
theorem dL_law__1771 : decode cL_law_ 1771 = .ok (.aload_n 0, 1) := by decide +kernel
theorem dL_law__1772 : decode cL_law_ 1772 = .ok (.iload 4, 2) := by decide +kernel
theorem dL_law__1774 : decode cL_law_ 1774 = .ok (.iconst 1, 1) := by decide +kernel
theorem dL_law__1775 : decode cL_law_ 1775 = .ok (.iadd, 1) := by decide +kernel
theorem dL_law__1776 : decode cL_law_ 1776 = .ok (.iaload, 1) := by decide +kernel
theorem dL_law__1777 : decode cL_law_ 1777 = .ok (.aload_n 0, 1) := by decide +kernel
theorem dL_law__1778 : decode cL_law_ 1778 = .ok (.iload 4, 2) := by decide +kernel
theorem dL_law__1780 : decode cL_law_ 1780 = .ok (.iconst 2, 1) := by decide +kernel
theorem dL_law__1781 : decode cL_law_ 1781 = .ok (.iadd, 1) := by decide +kernel
theorem dL_law__1782 : decode cL_law_ 1782 = .ok (.iaload, 1) := by decide +kernel
theorem dL_law__1783 : decode cL_law_ 1783 = .ok (.aload_n 0, 1) := by decide +kernel
theorem dL_law__1784 : decode cL_law_ 1784 = .ok (.iload 4, 2) := by decide +kernel
theorem dL_law__1786 : decode cL_law_ 1786 = .ok (.iconst 3, 1) := by decide +kernel
theorem dL_law__1787 : decode cL_law_ 1787 = .ok (.iadd, 1) := by decide +kernel
theorem dL_law__1788 : decode cL_law_ 1788 = .ok (.iaload, 1) := by decide +kernel
theorem dL_law__1789 : decode cL_law_ 1789 = .ok (.ifCond .eq 7, 3) := by decide +kernel
theorem dL_law__1792 : decode cL_law_ 1792 = .ok (.iconst 1, 1) := by decide +kernel
theorem dL_law__1793 : decode cL_law_ 1793 = .ok (.goto 4, 3) := by decide +kernel
theorem dL_law__1796 : decode cL_law_ 1796 = .ok (.iconst 0, 1) := by decide +kernel
theorem dL_law__1797 : decode cL_law_ 1797 = .ok (.invokevirtual 234, 3) := by decide +kernel
theorem dL_law__1800 : decode cL_law_ 1800 = .ok (.istore 6, 2) := by decide +kernel
theorem dL_law__1802 : decode cL_law_ 1802 = .ok (.aload_n 2, 1) := by decide +kernel
theorem dL_law__1803 : decode cL_law_ 1803 = .ok (.invokevirtual 136, 3) := by decide +kernel
theorem dL_law__1806 : decode cL_law_ 1806 = .ok (.iload 5, 2) := by decide +kernel
theorem dL_law__1808 : decode cL_law_ 1808 = .ok (.if_icmp .eq 5, 3) := by decide +kernel
theorem dL_law__1811 : decode cL_law_ 1811 = .ok (.iconst 0, 1) := by decide +kernel
theorem dL_law__1812 : decode cL_law_ 1812 = .ok (.ireturn, 1) := by decide +kernel
theorem dL_law__1813 : decode cL_law_ 1813 = .ok (.iload 5, 2) := by decide +kernel
theorem dL_law__1815 : decode cL_law_ 1815 = .ok (.ifCond .ne 15, 3) := by decide +kernel
theorem dL_law__1818 : decode cL_law_ 1818 = .ok (.aload_n 3, 1) := by decide +kernel
theorem dL_law__1819 : decode cL_law_ 1819 = .ok (.iconst 0, 1) := by decide +kernel
theorem dL_law__1820 : decode cL_law_ 1820 = .ok (.laload, 1) := by decide +kernel
theorem dL_law__1821 : decode cL_law_ 1821 = .ok (.iload 6, 2) := by decide +kernel
theorem dL_law__1823 : decode cL_law_ 1823 = .ok (.i2l, 1) := by decide +kernel
theorem dL_law__1824 : decode cL_law_ 1824 = .ok (.lcmp, 1) := by decide +kernel
theorem dL_law__1825 : decode cL_law_ 1825 = .ok (.ifCond .eq 5, 3) := by decide +kernel
theorem dL_law__1828 : decode cL_law_ 1828 = .ok (.iconst 0, 1) := by decide +kernel
theorem dL_law__1829 : decode cL_law_ 1829 = .ok (.ireturn, 1) := by decide +kernel
theorem dL_law__1830 : decode cL_law_ 1830 = .ok (.goto 925, 3) := by decide +kernel
theorem dL_law__1833 : decode cL_law_ 1833 = .ok (.aload_n 1, 1) := by decide +kernel
theorem dL_law__1834 : decode cL_law_ 1834 = .ok (.aload_n 0, 1) := by decide +kernel
theorem dL_law__1835 : decode cL_law_ 1835 = .ok (.iload 4, 2) := by decide +kernel
theorem dL_law__1837 : decode cL_law_ 1837 = .ok (.iconst 1, 1) := by decide +kernel
theorem dL_law__1838 : decode cL_law_ 1838 = .ok (.iadd, 1) := by decide +kernel
theorem dL_law__1839 : decode cL_law_ 1839 = .ok (.iaload, 1) := by decide +kernel
theorem dL_law__1840 : decode cL_law_ 1840 = .ok (.aload_n 0, 1) := by decide +kernel
theorem dL_law__1841 : decode cL_law_ 1841 = .ok (.iload 4, 2) := by decide +kernel
theorem dL_law__1843 : decode cL_law_ 1843 = .ok (.iconst 2, 1) := by decide +kernel
theorem dL_law__1844 : decode cL_law_ 1844 = .ok (.iadd, 1) := by decide +kernel
theorem dL_law__1845 : decode cL_law_ 1845 = .ok (.iaload, 1) := by decide +kernel
theorem dL_law__1846 : decode cL_law_ 1846 = .ok (.aload_n 3, 1) := by decide +kernel
theorem dL_law__1847 : decode cL_law_ 1847 = .ok (.invokestatic 235, 3) := by decide +kernel
theorem dL_law__1850 : decode cL_law_ 1850 = .ok (.istore 5, 2) := by decide +kernel
theorem dL_law__1852 : decode cL_law_ 1852 = .ok (.aload_n 2, 1) := by decide +kernel
theorem dL_law__1853 : decode cL_law_ 1853 = .ok (.aload_n 0, 1) := by decide +kernel
theorem dL_law__1854 : decode cL_law_ 1854 = .ok (.iload 4, 2) := by decide +kernel
theorem dL_law__1856 : decode cL_law_ 1856 = .ok (.iconst 1, 1) := by decide +kernel
theorem dL_law__1857 : decode cL_law_ 1857 = .ok (.iadd, 1) := by decide +kernel
theorem dL_law__1858 : decode cL_law_ 1858 = .ok (.iaload, 1) := by decide +kernel
theorem dL_law__1859 : decode cL_law_ 1859 = .ok (.aload_n 0, 1) := by decide +kernel
theorem dL_law__1860 : decode cL_law_ 1860 = .ok (.iload 4, 2) := by decide +kernel
theorem dL_law__1862 : decode cL_law_ 1862 = .ok (.iconst 2, 1) := by decide +kernel
theorem dL_law__1863 : decode cL_law_ 1863 = .ok (.iadd, 1) := by decide +kernel
theorem dL_law__1864 : decode cL_law_ 1864 = .ok (.iaload, 1) := by decide +kernel
theorem dL_law__1865 : decode cL_law_ 1865 = .ok (.invokevirtual 237, 3) := by decide +kernel
theorem dL_law__1868 : decode cL_law_ 1868 = .ok (.istore 6, 2) := by decide +kernel
theorem dL_law__1870 : decode cL_law_ 1870 = .ok (.aload_n 2, 1) := by decide +kernel
theorem dL_law__1871 : decode cL_law_ 1871 = .ok (.invokevirtual 136, 3) := by decide +kernel
theorem dL_law__1874 : decode cL_law_ 1874 = .ok (.iload 5, 2) := by decide +kernel
theorem dL_law__1876 : decode cL_law_ 1876 = .ok (.if_icmp .eq 5, 3) := by decide +kernel
theorem dL_law__1879 : decode cL_law_ 1879 = .ok (.iconst 0, 1) := by decide +kernel
theorem dL_law__1880 : decode cL_law_ 1880 = .ok (.ireturn, 1) := by decide +kernel
theorem dL_law__1881 : decode cL_law_ 1881 = .ok (.iload 5, 2) := by decide +kernel
theorem dL_law__1883 : decode cL_law_ 1883 = .ok (.ifCond .ne 22, 3) := by decide +kernel
theorem dL_law__1886 : decode cL_law_ 1886 = .ok (.aload_n 3, 1) := by decide +kernel
theorem dL_law__1887 : decode cL_law_ 1887 = .ok (.iconst 0, 1) := by decide +kernel
theorem dL_law__1888 : decode cL_law_ 1888 = .ok (.laload, 1) := by decide +kernel
theorem dL_law__1889 : decode cL_law_ 1889 = .ok (.iload 6, 2) := by decide +kernel
theorem dL_law__1891 : decode cL_law_ 1891 = .ok (.ifCond .eq 7, 3) := by decide +kernel
theorem dL_law__1894 : decode cL_law_ 1894 = .ok (.lconst 1, 1) := by decide +kernel
theorem dL_law__1895 : decode cL_law_ 1895 = .ok (.goto 4, 3) := by decide +kernel
theorem dL_law__1898 : decode cL_law_ 1898 = .ok (.lconst 0, 1) := by decide +kernel
theorem dL_law__1899 : decode cL_law_ 1899 = .ok (.lcmp, 1) := by decide +kernel
theorem dL_law__1900 : decode cL_law_ 1900 = .ok (.ifCond .eq 5, 3) := by decide +kernel
theorem dL_law__1903 : decode cL_law_ 1903 = .ok (.iconst 0, 1) := by decide +kernel
theorem dL_law__1904 : decode cL_law_ 1904 = .ok (.ireturn, 1) := by decide +kernel
theorem dL_law__1905 : decode cL_law_ 1905 = .ok (.goto 850, 3) := by decide +kernel
theorem dL_law__1908 : decode cL_law_ 1908 = .ok (.aload_n 1, 1) := by decide +kernel
theorem dL_law__1909 : decode cL_law_ 1909 = .ok (.aload_n 0, 1) := by decide +kernel
theorem dL_law__1910 : decode cL_law_ 1910 = .ok (.iload 4, 2) := by decide +kernel
theorem dL_law__1912 : decode cL_law_ 1912 = .ok (.iconst 1, 1) := by decide +kernel
theorem dL_law__1913 : decode cL_law_ 1913 = .ok (.iadd, 1) := by decide +kernel
theorem dL_law__1914 : decode cL_law_ 1914 = .ok (.iaload, 1) := by decide +kernel
theorem dL_law__1915 : decode cL_law_ 1915 = .ok (.aload_n 0, 1) := by decide +kernel
theorem dL_law__1916 : decode cL_law_ 1916 = .ok (.iload 4, 2) := by decide +kernel
theorem dL_law__1918 : decode cL_law_ 1918 = .ok (.iconst 2, 1) := by decide +kernel
theorem dL_law__1919 : decode cL_law_ 1919 = .ok (.iadd, 1) := by decide +kernel
theorem dL_law__1920 : decode cL_law_ 1920 = .ok (.iaload, 1) := by decide +kernel
theorem dL_law__1921 : decode cL_law_ 1921 = .ok (.aload_n 3, 1) := by decide +kernel
theorem dL_law__1922 : decode cL_law_ 1922 = .ok (.invokestatic 238, 3) := by decide +kernel
theorem dL_law__1925 : decode cL_law_ 1925 = .ok (.istore 5, 2) := by decide +kernel
theorem dL_law__1927 : decode cL_law_ 1927 = .ok (.aload_n 2, 1) := by decide +kernel
theorem dL_law__1928 : decode cL_law_ 1928 = .ok (.aload_n 0, 1) := by decide +kernel
theorem dL_law__1929 : decode cL_law_ 1929 = .ok (.iload 4, 2) := by decide +kernel
theorem dL_law__1931 : decode cL_law_ 1931 = .ok (.iconst 1, 1) := by decide +kernel
theorem dL_law__1932 : decode cL_law_ 1932 = .ok (.iadd, 1) := by decide +kernel
theorem dL_law__1933 : decode cL_law_ 1933 = .ok (.iaload, 1) := by decide +kernel
theorem dL_law__1934 : decode cL_law_ 1934 = .ok (.aload_n 0, 1) := by decide +kernel
theorem dL_law__1935 : decode cL_law_ 1935 = .ok (.iload 4, 2) := by decide +kernel
theorem dL_law__1937 : decode cL_law_ 1937 = .ok (.iconst 2, 1) := by decide +kernel
theorem dL_law__1938 : decode cL_law_ 1938 = .ok (.iadd, 1) := by decide +kernel
theorem dL_law__1939 : decode cL_law_ 1939 = .ok (.iaload, 1) := by decide +kernel
theorem dL_law__1940 : decode cL_law_ 1940 = .ok (.invokevirtual 240, 3) := by decide +kernel
theorem dL_law__1943 : decode cL_law_ 1943 = .ok (.istore 6, 2) := by decide +kernel
theorem dL_law__1945 : decode cL_law_ 1945 = .ok (.aload_n 2, 1) := by decide +kernel
theorem dL_law__1946 : decode cL_law_ 1946 = .ok (.invokevirtual 136, 3) := by decide +kernel
theorem dL_law__1949 : decode cL_law_ 1949 = .ok (.iload 5, 2) := by decide +kernel
theorem dL_law__1951 : decode cL_law_ 1951 = .ok (.if_icmp .eq 5, 3) := by decide +kernel
theorem dL_law__1954 : decode cL_law_ 1954 = .ok (.iconst 0, 1) := by decide +kernel
theorem dL_law__1955 : decode cL_law_ 1955 = .ok (.ireturn, 1) := by decide +kernel
theorem dL_law__1956 : decode cL_law_ 1956 = .ok (.iload 5, 2) := by decide +kernel
theorem dL_law__1958 : decode cL_law_ 1958 = .ok (.ifCond .ne 15, 3) := by decide +kernel
theorem dL_law__1961 : decode cL_law_ 1961 = .ok (.aload_n 3, 1) := by decide +kernel
theorem dL_law__1962 : decode cL_law_ 1962 = .ok (.iconst 0, 1) := by decide +kernel
theorem dL_law__1963 : decode cL_law_ 1963 = .ok (.laload, 1) := by decide +kernel
theorem dL_law__1964 : decode cL_law_ 1964 = .ok (.iload 6, 2) := by decide +kernel
theorem dL_law__1966 : decode cL_law_ 1966 = .ok (.i2l, 1) := by decide +kernel
theorem dL_law__1967 : decode cL_law_ 1967 = .ok (.lcmp, 1) := by decide +kernel
theorem dL_law__1968 : decode cL_law_ 1968 = .ok (.ifCond .eq 5, 3) := by decide +kernel
theorem dL_law__1971 : decode cL_law_ 1971 = .ok (.iconst 0, 1) := by decide +kernel
theorem dL_law__1972 : decode cL_law_ 1972 = .ok (.ireturn, 1) := by decide +kernel
theorem dL_law__1973 : decode cL_law_ 1973 = .ok (.goto 782, 3) := by decide +kernel
theorem dL_law__1976 : decode cL_law_ 1976 = .ok (.aload_n 1, 1) := by decide +kernel
theorem dL_law__1977 : decode cL_law_ 1977 = .ok (.aload_n 0, 1) := by decide +kernel
theorem dL_law__1978 : decode cL_law_ 1978 = .ok (.iload 4, 2) := by decide +kernel
theorem dL_law__1980 : decode cL_law_ 1980 = .ok (.iconst 1, 1) := by decide +kernel
theorem dL_law__1981 : decode cL_law_ 1981 = .ok (.iadd, 1) := by decide +kernel
theorem dL_law__1982 : decode cL_law_ 1982 = .ok (.iaload, 1) := by decide +kernel
theorem dL_law__1983 : decode cL_law_ 1983 = .ok (.aload_n 3, 1) := by decide +kernel
theorem dL_law__1984 : decode cL_law_ 1984 = .ok (.invokestatic 241, 3) := by decide +kernel
theorem dL_law__1987 : decode cL_law_ 1987 = .ok (.istore 5, 2) := by decide +kernel
theorem dL_law__1989 : decode cL_law_ 1989 = .ok (.aload_n 2, 1) := by decide +kernel
theorem dL_law__1990 : decode cL_law_ 1990 = .ok (.aload_n 0, 1) := by decide +kernel
theorem dL_law__1991 : decode cL_law_ 1991 = .ok (.iload 4, 2) := by decide +kernel
theorem dL_law__1993 : decode cL_law_ 1993 = .ok (.iconst 1, 1) := by decide +kernel
theorem dL_law__1994 : decode cL_law_ 1994 = .ok (.iadd, 1) := by decide +kernel
theorem dL_law__1995 : decode cL_law_ 1995 = .ok (.iaload, 1) := by decide +kernel
theorem dL_law__1996 : decode cL_law_ 1996 = .ok (.invokevirtual 243, 3) := by decide +kernel
theorem dL_law__1999 : decode cL_law_ 1999 = .ok (.istore 6, 2) := by decide +kernel
theorem dL_law__2001 : decode cL_law_ 2001 = .ok (.aload_n 2, 1) := by decide +kernel
theorem dL_law__2002 : decode cL_law_ 2002 = .ok (.invokevirtual 136, 3) := by decide +kernel
theorem dL_law__2005 : decode cL_law_ 2005 = .ok (.iload 5, 2) := by decide +kernel
theorem dL_law__2007 : decode cL_law_ 2007 = .ok (.if_icmp .eq 5, 3) := by decide +kernel
theorem dL_law__2010 : decode cL_law_ 2010 = .ok (.iconst 0, 1) := by decide +kernel
theorem dL_law__2011 : decode cL_law_ 2011 = .ok (.ireturn, 1) := by decide +kernel
theorem dL_law__2012 : decode cL_law_ 2012 = .ok (.iload 5, 2) := by decide +kernel
theorem dL_law__2014 : decode cL_law_ 2014 = .ok (.ifCond .ne 15, 3) := by decide +kernel
theorem dL_law__2017 : decode cL_law_ 2017 = .ok (.aload_n 3, 1) := by decide +kernel
theorem dL_law__2018 : decode cL_law_ 2018 = .ok (.iconst 0, 1) := by decide +kernel
theorem dL_law__2019 : decode cL_law_ 2019 = .ok (.laload, 1) := by decide +kernel
theorem dL_law__2020 : decode cL_law_ 2020 = .ok (.iload 6, 2) := by decide +kernel
theorem dL_law__2022 : decode cL_law_ 2022 = .ok (.i2l, 1) := by decide +kernel
theorem dL_law__2023 : decode cL_law_ 2023 = .ok (.lcmp, 1) := by decide +kernel
theorem dL_law__2024 : decode cL_law_ 2024 = .ok (.ifCond .eq 5, 3) := by decide +kernel
theorem dL_law__2027 : decode cL_law_ 2027 = .ok (.iconst 0, 1) := by decide +kernel
theorem dL_law__2028 : decode cL_law_ 2028 = .ok (.ireturn, 1) := by decide +kernel
theorem dL_law__2029 : decode cL_law_ 2029 = .ok (.goto 726, 3) := by decide +kernel
theorem dL_law__2032 : decode cL_law_ 2032 = .ok (.aload_n 1, 1) := by decide +kernel
theorem dL_law__2033 : decode cL_law_ 2033 = .ok (.invokevirtual 244, 3) := by decide +kernel
theorem dL_law__2036 : decode cL_law_ 2036 = .ok (.aload_n 2, 1) := by decide +kernel
theorem dL_law__2037 : decode cL_law_ 2037 = .ok (.invokevirtual 247, 3) := by decide +kernel
theorem dL_law__2040 : decode cL_law_ 2040 = .ok (.if_icmp .eq 715, 3) := by decide +kernel
theorem dL_law__2043 : decode cL_law_ 2043 = .ok (.iconst 0, 1) := by decide +kernel
theorem dL_law__2044 : decode cL_law_ 2044 = .ok (.ireturn, 1) := by decide +kernel
theorem dL_law__2045 : decode cL_law_ 2045 = .ok (.aload_n 1, 1) := by decide +kernel
theorem dL_law__2046 : decode cL_law_ 2046 = .ok (.aload_n 0, 1) := by decide +kernel
theorem dL_law__2047 : decode cL_law_ 2047 = .ok (.iload 4, 2) := by decide +kernel
theorem dL_law__2049 : decode cL_law_ 2049 = .ok (.iconst 1, 1) := by decide +kernel
theorem dL_law__2050 : decode cL_law_ 2050 = .ok (.iadd, 1) := by decide +kernel
theorem dL_law__2051 : decode cL_law_ 2051 = .ok (.iaload, 1) := by decide +kernel
theorem dL_law__2052 : decode cL_law_ 2052 = .ok (.ifCond .eq 7, 3) := by decide +kernel
theorem dL_law__2055 : decode cL_law_ 2055 = .ok (.iconst 1, 1) := by decide +kernel
theorem dL_law__2056 : decode cL_law_ 2056 = .ok (.goto 4, 3) := by decide +kernel
theorem dL_law__2059 : decode cL_law_ 2059 = .ok (.iconst 0, 1) := by decide +kernel
theorem dL_law__2060 : decode cL_law_ 2060 = .ok (.invokevirtual 248, 3) := by decide +kernel
theorem dL_law__2063 : decode cL_law_ 2063 = .ok (.aload_n 2, 1) := by decide +kernel
theorem dL_law__2064 : decode cL_law_ 2064 = .ok (.aload_n 0, 1) := by decide +kernel
theorem dL_law__2065 : decode cL_law_ 2065 = .ok (.iload 4, 2) := by decide +kernel
theorem dL_law__2067 : decode cL_law_ 2067 = .ok (.iconst 1, 1) := by decide +kernel
theorem dL_law__2068 : decode cL_law_ 2068 = .ok (.iadd, 1) := by decide +kernel
theorem dL_law__2069 : decode cL_law_ 2069 = .ok (.iaload, 1) := by decide +kernel
theorem dL_law__2070 : decode cL_law_ 2070 = .ok (.ifCond .eq 7, 3) := by decide +kernel
theorem dL_law__2073 : decode cL_law_ 2073 = .ok (.iconst 1, 1) := by decide +kernel
theorem dL_law__2074 : decode cL_law_ 2074 = .ok (.goto 4, 3) := by decide +kernel
theorem dL_law__2077 : decode cL_law_ 2077 = .ok (.iconst 0, 1) := by decide +kernel
theorem dL_law__2078 : decode cL_law_ 2078 = .ok (.invokevirtual 251, 3) := by decide +kernel
theorem dL_law__2081 : decode cL_law_ 2081 = .ok (.if_icmp .eq 674, 3) := by decide +kernel
theorem dL_law__2084 : decode cL_law_ 2084 = .ok (.iconst 0, 1) := by decide +kernel
theorem dL_law__2085 : decode cL_law_ 2085 = .ok (.ireturn, 1) := by decide +kernel
theorem dL_law__2086 : decode cL_law_ 2086 = .ok (.aload_n 1, 1) := by decide +kernel
theorem dL_law__2087 : decode cL_law_ 2087 = .ok (.aload_n 0, 1) := by decide +kernel
theorem dL_law__2088 : decode cL_law_ 2088 = .ok (.iload 4, 2) := by decide +kernel
theorem dL_law__2090 : decode cL_law_ 2090 = .ok (.iconst 1, 1) := by decide +kernel
theorem dL_law__2091 : decode cL_law_ 2091 = .ok (.iadd, 1) := by decide +kernel
theorem dL_law__2092 : decode cL_law_ 2092 = .ok (.iaload, 1) := by decide +kernel
theorem dL_law__2093 : decode cL_law_ 2093 = .ok (.aload_n 0, 1) := by decide +kernel
theorem dL_law__2094 : decode cL_law_ 2094 = .ok (.iload 4, 2) := by decide +kernel
theorem dL_law__2096 : decode cL_law_ 2096 = .ok (.iconst 2, 1) := by decide +kernel
theorem dL_law__2097 : decode cL_law_ 2097 = .ok (.iadd, 1) := by decide +kernel
theorem dL_law__2098 : decode cL_law_ 2098 = .ok (.iaload, 1) := by decide +kernel
theorem dL_law__2099 : decode cL_law_ 2099 = .ok (.aload_n 0, 1) := by decide +kernel
theorem dL_law__2100 : decode cL_law_ 2100 = .ok (.iload 4, 2) := by decide +kernel
theorem dL_law__2102 : decode cL_law_ 2102 = .ok (.iconst 3, 1) := by decide +kernel
theorem dL_law__2103 : decode cL_law_ 2103 = .ok (.iadd, 1) := by decide +kernel
theorem dL_law__2104 : decode cL_law_ 2104 = .ok (.iaload, 1) := by decide +kernel
theorem dL_law__2105 : decode cL_law_ 2105 = .ok (.ifCond .eq 7, 3) := by decide +kernel
theorem dL_law__2108 : decode cL_law_ 2108 = .ok (.iconst 1, 1) := by decide +kernel
theorem dL_law__2109 : decode cL_law_ 2109 = .ok (.goto 4, 3) := by decide +kernel
theorem dL_law__2112 : decode cL_law_ 2112 = .ok (.iconst 0, 1) := by decide +kernel
theorem dL_law__2113 : decode cL_law_ 2113 = .ok (.aload_n 3, 1) := by decide +kernel
theorem dL_law__2114 : decode cL_law_ 2114 = .ok (.invokestatic 252, 3) := by decide +kernel
theorem dL_law__2117 : decode cL_law_ 2117 = .ok (.istore 5, 2) := by decide +kernel
theorem dL_law__2119 : decode cL_law_ 2119 = .ok (.aload_n 2, 1) := by decide +kernel
theorem dL_law__2120 : decode cL_law_ 2120 = .ok (.aload_n 0, 1) := by decide +kernel
theorem dL_law__2121 : decode cL_law_ 2121 = .ok (.iload 4, 2) := by decide +kernel
theorem dL_law__2123 : decode cL_law_ 2123 = .ok (.iconst 1, 1) := by decide +kernel
theorem dL_law__2124 : decode cL_law_ 2124 = .ok (.iadd, 1) := by decide +kernel
theorem dL_law__2125 : decode cL_law_ 2125 = .ok (.iaload, 1) := by decide +kernel
theorem dL_law__2126 : decode cL_law_ 2126 = .ok (.aload_n 0, 1) := by decide +kernel
theorem dL_law__2127 : decode cL_law_ 2127 = .ok (.iload 4, 2) := by decide +kernel
theorem dL_law__2129 : decode cL_law_ 2129 = .ok (.iconst 2, 1) := by decide +kernel
theorem dL_law__2130 : decode cL_law_ 2130 = .ok (.iadd, 1) := by decide +kernel
theorem dL_law__2131 : decode cL_law_ 2131 = .ok (.iaload, 1) := by decide +kernel
theorem dL_law__2132 : decode cL_law_ 2132 = .ok (.aload_n 0, 1) := by decide +kernel
theorem dL_law__2133 : decode cL_law_ 2133 = .ok (.iload 4, 2) := by decide +kernel
theorem dL_law__2135 : decode cL_law_ 2135 = .ok (.iconst 3, 1) := by decide +kernel
theorem dL_law__2136 : decode cL_law_ 2136 = .ok (.iadd, 1) := by decide +kernel
theorem dL_law__2137 : decode cL_law_ 2137 = .ok (.iaload, 1) := by decide +kernel
theorem dL_law__2138 : decode cL_law_ 2138 = .ok (.ifCond .eq 7, 3) := by decide +kernel
theorem dL_law__2141 : decode cL_law_ 2141 = .ok (.iconst 1, 1) := by decide +kernel
theorem dL_law__2142 : decode cL_law_ 2142 = .ok (.goto 4, 3) := by decide +kernel
theorem dL_law__2145 : decode cL_law_ 2145 = .ok (.iconst 0, 1) := by decide +kernel
theorem dL_law__2146 : decode cL_law_ 2146 = .ok (.invokevirtual 254, 3) := by decide +kernel
theorem dL_law__2149 : decode cL_law_ 2149 = .ok (.istore 6, 2) := by decide +kernel
theorem dL_law__2151 : decode cL_law_ 2151 = .ok (.aload_n 2, 1) := by decide +kernel
theorem dL_law__2152 : decode cL_law_ 2152 = .ok (.invokevirtual 136, 3) := by decide +kernel
theorem dL_law__2155 : decode cL_law_ 2155 = .ok (.iload 5, 2) := by decide +kernel
theorem dL_law__2157 : decode cL_law_ 2157 = .ok (.if_icmp .eq 5, 3) := by decide +kernel
theorem dL_law__2160 : decode cL_law_ 2160 = .ok (.iconst 0, 1) := by decide +kernel
theorem dL_law__2161 : decode cL_law_ 2161 = .ok (.ireturn, 1) := by decide +kernel
theorem dL_law__2162 : decode cL_law_ 2162 = .ok (.iload 5, 2) := by decide +kernel
theorem dL_law__2164 : decode cL_law_ 2164 = .ok (.ifCond .ne 15, 3) := by decide +kernel
theorem dL_law__2167 : decode cL_law_ 2167 = .ok (.aload_n 3, 1) := by decide +kernel
theorem dL_law__2168 : decode cL_law_ 2168 = .ok (.iconst 0, 1) := by decide +kernel
theorem dL_law__2169 : decode cL_law_ 2169 = .ok (.laload, 1) := by decide +kernel
theorem dL_law__2170 : decode cL_law_ 2170 = .ok (.iload 6, 2) := by decide +kernel
theorem dL_law__2172 : decode cL_law_ 2172 = .ok (.i2l, 1) := by decide +kernel
theorem dL_law__2173 : decode cL_law_ 2173 = .ok (.lcmp, 1) := by decide +kernel
theorem dL_law__2174 : decode cL_law_ 2174 = .ok (.ifCond .eq 5, 3) := by decide +kernel
theorem dL_law__2177 : decode cL_law_ 2177 = .ok (.iconst 0, 1) := by decide +kernel
theorem dL_law__2178 : decode cL_law_ 2178 = .ok (.ireturn, 1) := by decide +kernel
theorem dL_law__2179 : decode cL_law_ 2179 = .ok (.goto 576, 3) := by decide +kernel
theorem dL_law__2182 : decode cL_law_ 2182 = .ok (.aload_n 1, 1) := by decide +kernel
theorem dL_law__2183 : decode cL_law_ 2183 = .ok (.aload_n 0, 1) := by decide +kernel
theorem dL_law__2184 : decode cL_law_ 2184 = .ok (.iload 4, 2) := by decide +kernel
theorem dL_law__2186 : decode cL_law_ 2186 = .ok (.iconst 1, 1) := by decide +kernel
theorem dL_law__2187 : decode cL_law_ 2187 = .ok (.iadd, 1) := by decide +kernel
theorem dL_law__2188 : decode cL_law_ 2188 = .ok (.iaload, 1) := by decide +kernel
theorem dL_law__2189 : decode cL_law_ 2189 = .ok (.aload_n 3, 1) := by decide +kernel
theorem dL_law__2190 : decode cL_law_ 2190 = .ok (.invokestatic 255, 3) := by decide +kernel
theorem dL_law__2193 : decode cL_law_ 2193 = .ok (.istore 5, 2) := by decide +kernel
theorem dL_law__2195 : decode cL_law_ 2195 = .ok (.aload_n 2, 1) := by decide +kernel
theorem dL_law__2196 : decode cL_law_ 2196 = .ok (.aload_n 0, 1) := by decide +kernel
theorem dL_law__2197 : decode cL_law_ 2197 = .ok (.iload 4, 2) := by decide +kernel
theorem dL_law__2199 : decode cL_law_ 2199 = .ok (.iconst 1, 1) := by decide +kernel
theorem dL_law__2200 : decode cL_law_ 2200 = .ok (.iadd, 1) := by decide +kernel
theorem dL_law__2201 : decode cL_law_ 2201 = .ok (.iaload, 1) := by decide +kernel
theorem dL_law__2202 : decode cL_law_ 2202 = .ok (.invokevirtual 257, 3) := by decide +kernel
theorem dL_law__2205 : decode cL_law_ 2205 = .ok (.istore 6, 2) := by decide +kernel
theorem dL_law__2207 : decode cL_law_ 2207 = .ok (.aload_n 2, 1) := by decide +kernel
theorem dL_law__2208 : decode cL_law_ 2208 = .ok (.invokevirtual 136, 3) := by decide +kernel
theorem dL_law__2211 : decode cL_law_ 2211 = .ok (.iload 5, 2) := by decide +kernel
theorem dL_law__2213 : decode cL_law_ 2213 = .ok (.if_icmp .eq 5, 3) := by decide +kernel
theorem dL_law__2216 : decode cL_law_ 2216 = .ok (.iconst 0, 1) := by decide +kernel
theorem dL_law__2217 : decode cL_law_ 2217 = .ok (.ireturn, 1) := by decide +kernel
theorem dL_law__2218 : decode cL_law_ 2218 = .ok (.iload 5, 2) := by decide +kernel
theorem dL_law__2220 : decode cL_law_ 2220 = .ok (.ifCond .ne 15, 3) := by decide +kernel
theorem dL_law__2223 : decode cL_law_ 2223 = .ok (.aload_n 3, 1) := by decide +kernel
theorem dL_law__2224 : decode cL_law_ 2224 = .ok (.iconst 0, 1) := by decide +kernel
theorem dL_law__2225 : decode cL_law_ 2225 = .ok (.laload, 1) := by decide +kernel
theorem dL_law__2226 : decode cL_law_ 2226 = .ok (.iload 6, 2) := by decide +kernel
theorem dL_law__2228 : decode cL_law_ 2228 = .ok (.i2l, 1) := by decide +kernel
theorem dL_law__2229 : decode cL_law_ 2229 = .ok (.lcmp, 1) := by decide +kernel
theorem dL_law__2230 : decode cL_law_ 2230 = .ok (.ifCond .eq 5, 3) := by decide +kernel
theorem dL_law__2233 : decode cL_law_ 2233 = .ok (.iconst 0, 1) := by decide +kernel
theorem dL_law__2234 : decode cL_law_ 2234 = .ok (.ireturn, 1) := by decide +kernel
theorem dL_law__2235 : decode cL_law_ 2235 = .ok (.goto 520, 3) := by decide +kernel
theorem dL_law__2238 : decode cL_law_ 2238 = .ok (.aload_n 1, 1) := by decide +kernel
theorem dL_law__2239 : decode cL_law_ 2239 = .ok (.aload_n 0, 1) := by decide +kernel
theorem dL_law__2240 : decode cL_law_ 2240 = .ok (.iload 4, 2) := by decide +kernel
theorem dL_law__2242 : decode cL_law_ 2242 = .ok (.iconst 1, 1) := by decide +kernel
theorem dL_law__2243 : decode cL_law_ 2243 = .ok (.iadd, 1) := by decide +kernel
theorem dL_law__2244 : decode cL_law_ 2244 = .ok (.iaload, 1) := by decide +kernel
theorem dL_law__2245 : decode cL_law_ 2245 = .ok (.ifCond .eq 7, 3) := by decide +kernel
theorem dL_law__2248 : decode cL_law_ 2248 = .ok (.iconst 1, 1) := by decide +kernel
theorem dL_law__2249 : decode cL_law_ 2249 = .ok (.goto 4, 3) := by decide +kernel
theorem dL_law__2252 : decode cL_law_ 2252 = .ok (.iconst 0, 1) := by decide +kernel
theorem dL_law__2253 : decode cL_law_ 2253 = .ok (.invokevirtual 258, 3) := by decide +kernel
theorem dL_law__2256 : decode cL_law_ 2256 = .ok (.aload_n 2, 1) := by decide +kernel
theorem dL_law__2257 : decode cL_law_ 2257 = .ok (.aload_n 0, 1) := by decide +kernel
theorem dL_law__2258 : decode cL_law_ 2258 = .ok (.iload 4, 2) := by decide +kernel
theorem dL_law__2260 : decode cL_law_ 2260 = .ok (.iconst 1, 1) := by decide +kernel
theorem dL_law__2261 : decode cL_law_ 2261 = .ok (.iadd, 1) := by decide +kernel
theorem dL_law__2262 : decode cL_law_ 2262 = .ok (.iaload, 1) := by decide +kernel
theorem dL_law__2263 : decode cL_law_ 2263 = .ok (.ifCond .eq 7, 3) := by decide +kernel
theorem dL_law__2266 : decode cL_law_ 2266 = .ok (.iconst 1, 1) := by decide +kernel
theorem dL_law__2267 : decode cL_law_ 2267 = .ok (.goto 4, 3) := by decide +kernel
theorem dL_law__2270 : decode cL_law_ 2270 = .ok (.iconst 0, 1) := by decide +kernel
theorem dL_law__2271 : decode cL_law_ 2271 = .ok (.invokevirtual 261, 3) := by decide +kernel
theorem dL_law__2274 : decode cL_law_ 2274 = .ok (.if_icmp .eq 481, 3) := by decide +kernel
theorem dL_law__2277 : decode cL_law_ 2277 = .ok (.iconst 0, 1) := by decide +kernel
theorem dL_law__2278 : decode cL_law_ 2278 = .ok (.ireturn, 1) := by decide +kernel
theorem dL_law__2279 : decode cL_law_ 2279 = .ok (.aload_n 1, 1) := by decide +kernel
theorem dL_law__2280 : decode cL_law_ 2280 = .ok (.aload_n 0, 1) := by decide +kernel
theorem dL_law__2281 : decode cL_law_ 2281 = .ok (.iload 4, 2) := by decide +kernel
theorem dL_law__2283 : decode cL_law_ 2283 = .ok (.iconst 1, 1) := by decide +kernel
theorem dL_law__2284 : decode cL_law_ 2284 = .ok (.iadd, 1) := by decide +kernel
theorem dL_law__2285 : decode cL_law_ 2285 = .ok (.iaload, 1) := by decide +kernel
theorem dL_law__2286 : decode cL_law_ 2286 = .ok (.aload_n 3, 1) := by decide +kernel
theorem dL_law__2287 : decode cL_law_ 2287 = .ok (.invokestatic 262, 3) := by decide +kernel
theorem dL_law__2290 : decode cL_law_ 2290 = .ok (.istore 5, 2) := by decide +kernel
theorem dL_law__2292 : decode cL_law_ 2292 = .ok (.aload_n 2, 1) := by decide +kernel
theorem dL_law__2293 : decode cL_law_ 2293 = .ok (.aload_n 0, 1) := by decide +kernel
theorem dL_law__2294 : decode cL_law_ 2294 = .ok (.iload 4, 2) := by decide +kernel
theorem dL_law__2296 : decode cL_law_ 2296 = .ok (.iconst 1, 1) := by decide +kernel
theorem dL_law__2297 : decode cL_law_ 2297 = .ok (.iadd, 1) := by decide +kernel
theorem dL_law__2298 : decode cL_law_ 2298 = .ok (.iaload, 1) := by decide +kernel
theorem dL_law__2299 : decode cL_law_ 2299 = .ok (.invokevirtual 264, 3) := by decide +kernel
theorem dL_law__2302 : decode cL_law_ 2302 = .ok (.istore 6, 2) := by decide +kernel
theorem dL_law__2304 : decode cL_law_ 2304 = .ok (.aload_n 2, 1) := by decide +kernel
theorem dL_law__2305 : decode cL_law_ 2305 = .ok (.invokevirtual 136, 3) := by decide +kernel
theorem dL_law__2308 : decode cL_law_ 2308 = .ok (.iload 5, 2) := by decide +kernel
theorem dL_law__2310 : decode cL_law_ 2310 = .ok (.if_icmp .eq 5, 3) := by decide +kernel
theorem dL_law__2313 : decode cL_law_ 2313 = .ok (.iconst 0, 1) := by decide +kernel
theorem dL_law__2314 : decode cL_law_ 2314 = .ok (.ireturn, 1) := by decide +kernel
theorem dL_law__2315 : decode cL_law_ 2315 = .ok (.iload 5, 2) := by decide +kernel
theorem dL_law__2317 : decode cL_law_ 2317 = .ok (.ifCond .ne 15, 3) := by decide +kernel
theorem dL_law__2320 : decode cL_law_ 2320 = .ok (.aload_n 3, 1) := by decide +kernel
theorem dL_law__2321 : decode cL_law_ 2321 = .ok (.iconst 0, 1) := by decide +kernel
theorem dL_law__2322 : decode cL_law_ 2322 = .ok (.laload, 1) := by decide +kernel
theorem dL_law__2323 : decode cL_law_ 2323 = .ok (.iload 6, 2) := by decide +kernel
theorem dL_law__2325 : decode cL_law_ 2325 = .ok (.i2l, 1) := by decide +kernel
theorem dL_law__2326 : decode cL_law_ 2326 = .ok (.lcmp, 1) := by decide +kernel
theorem dL_law__2327 : decode cL_law_ 2327 = .ok (.ifCond .eq 5, 3) := by decide +kernel
theorem dL_law__2330 : decode cL_law_ 2330 = .ok (.iconst 0, 1) := by decide +kernel
theorem dL_law__2331 : decode cL_law_ 2331 = .ok (.ireturn, 1) := by decide +kernel
theorem dL_law__2332 : decode cL_law_ 2332 = .ok (.goto 423, 3) := by decide +kernel
theorem dL_law__2335 : decode cL_law_ 2335 = .ok (.aload_n 1, 1) := by decide +kernel
theorem dL_law__2336 : decode cL_law_ 2336 = .ok (.invokevirtual 265, 3) := by decide +kernel
theorem dL_law__2339 : decode cL_law_ 2339 = .ok (.aload_n 2, 1) := by decide +kernel
theorem dL_law__2340 : decode cL_law_ 2340 = .ok (.invokevirtual 268, 3) := by decide +kernel
theorem dL_law__2343 : decode cL_law_ 2343 = .ok (.if_icmp .eq 412, 3) := by decide +kernel
theorem dL_law__2346 : decode cL_law_ 2346 = .ok (.iconst 0, 1) := by decide +kernel
theorem dL_law__2347 : decode cL_law_ 2347 = .ok (.ireturn, 1) := by decide +kernel
theorem dL_law__2348 : decode cL_law_ 2348 = .ok (.aload_n 1, 1) := by decide +kernel
theorem dL_law__2349 : decode cL_law_ 2349 = .ok (.aload_n 0, 1) := by decide +kernel
theorem dL_law__2350 : decode cL_law_ 2350 = .ok (.iload 4, 2) := by decide +kernel
theorem dL_law__2352 : decode cL_law_ 2352 = .ok (.iconst 1, 1) := by decide +kernel
theorem dL_law__2353 : decode cL_law_ 2353 = .ok (.iadd, 1) := by decide +kernel
theorem dL_law__2354 : decode cL_law_ 2354 = .ok (.iaload, 1) := by decide +kernel
theorem dL_law__2355 : decode cL_law_ 2355 = .ok (.aload_n 0, 1) := by decide +kernel
theorem dL_law__2356 : decode cL_law_ 2356 = .ok (.iload 4, 2) := by decide +kernel
theorem dL_law__2358 : decode cL_law_ 2358 = .ok (.iconst 2, 1) := by decide +kernel
theorem dL_law__2359 : decode cL_law_ 2359 = .ok (.iadd, 1) := by decide +kernel
theorem dL_law__2360 : decode cL_law_ 2360 = .ok (.iaload, 1) := by decide +kernel
theorem dL_law__2361 : decode cL_law_ 2361 = .ok (.ifCond .eq 7, 3) := by decide +kernel
theorem dL_law__2364 : decode cL_law_ 2364 = .ok (.iconst 1, 1) := by decide +kernel
theorem dL_law__2365 : decode cL_law_ 2365 = .ok (.goto 4, 3) := by decide +kernel
theorem dL_law__2368 : decode cL_law_ 2368 = .ok (.iconst 0, 1) := by decide +kernel
theorem dL_law__2369 : decode cL_law_ 2369 = .ok (.aload_n 3, 1) := by decide +kernel
theorem dL_law__2370 : decode cL_law_ 2370 = .ok (.invokestatic 269, 3) := by decide +kernel
theorem dL_law__2373 : decode cL_law_ 2373 = .ok (.istore 5, 2) := by decide +kernel
theorem dL_law__2375 : decode cL_law_ 2375 = .ok (.aload_n 2, 1) := by decide +kernel
theorem dL_law__2376 : decode cL_law_ 2376 = .ok (.aload_n 0, 1) := by decide +kernel
theorem dL_law__2377 : decode cL_law_ 2377 = .ok (.iload 4, 2) := by decide +kernel
theorem dL_law__2379 : decode cL_law_ 2379 = .ok (.iconst 1, 1) := by decide +kernel
theorem dL_law__2380 : decode cL_law_ 2380 = .ok (.iadd, 1) := by decide +kernel
theorem dL_law__2381 : decode cL_law_ 2381 = .ok (.iaload, 1) := by decide +kernel
theorem dL_law__2382 : decode cL_law_ 2382 = .ok (.aload_n 0, 1) := by decide +kernel
theorem dL_law__2383 : decode cL_law_ 2383 = .ok (.iload 4, 2) := by decide +kernel
theorem dL_law__2385 : decode cL_law_ 2385 = .ok (.iconst 2, 1) := by decide +kernel
theorem dL_law__2386 : decode cL_law_ 2386 = .ok (.iadd, 1) := by decide +kernel
theorem dL_law__2387 : decode cL_law_ 2387 = .ok (.iaload, 1) := by decide +kernel
theorem dL_law__2388 : decode cL_law_ 2388 = .ok (.ifCond .eq 7, 3) := by decide +kernel
theorem dL_law__2391 : decode cL_law_ 2391 = .ok (.iconst 1, 1) := by decide +kernel
theorem dL_law__2392 : decode cL_law_ 2392 = .ok (.goto 4, 3) := by decide +kernel
theorem dL_law__2395 : decode cL_law_ 2395 = .ok (.iconst 0, 1) := by decide +kernel
theorem dL_law__2396 : decode cL_law_ 2396 = .ok (.invokevirtual 271, 3) := by decide +kernel
theorem dL_law__2399 : decode cL_law_ 2399 = .ok (.istore 6, 2) := by decide +kernel
theorem dL_law__2401 : decode cL_law_ 2401 = .ok (.aload_n 2, 1) := by decide +kernel
theorem dL_law__2402 : decode cL_law_ 2402 = .ok (.invokevirtual 136, 3) := by decide +kernel
theorem dL_law__2405 : decode cL_law_ 2405 = .ok (.iload 5, 2) := by decide +kernel
theorem dL_law__2407 : decode cL_law_ 2407 = .ok (.if_icmp .eq 5, 3) := by decide +kernel
theorem dL_law__2410 : decode cL_law_ 2410 = .ok (.iconst 0, 1) := by decide +kernel
theorem dL_law__2411 : decode cL_law_ 2411 = .ok (.ireturn, 1) := by decide +kernel
theorem dL_law__2412 : decode cL_law_ 2412 = .ok (.iload 5, 2) := by decide +kernel
theorem dL_law__2414 : decode cL_law_ 2414 = .ok (.ifCond .ne 15, 3) := by decide +kernel
theorem dL_law__2417 : decode cL_law_ 2417 = .ok (.aload_n 3, 1) := by decide +kernel
theorem dL_law__2418 : decode cL_law_ 2418 = .ok (.iconst 0, 1) := by decide +kernel
theorem dL_law__2419 : decode cL_law_ 2419 = .ok (.laload, 1) := by decide +kernel
theorem dL_law__2420 : decode cL_law_ 2420 = .ok (.iload 6, 2) := by decide +kernel
theorem dL_law__2422 : decode cL_law_ 2422 = .ok (.i2l, 1) := by decide +kernel
theorem dL_law__2423 : decode cL_law_ 2423 = .ok (.lcmp, 1) := by decide +kernel
theorem dL_law__2424 : decode cL_law_ 2424 = .ok (.ifCond .eq 5, 3) := by decide +kernel
theorem dL_law__2427 : decode cL_law_ 2427 = .ok (.iconst 0, 1) := by decide +kernel
theorem dL_law__2428 : decode cL_law_ 2428 = .ok (.ireturn, 1) := by decide +kernel
theorem dL_law__2429 : decode cL_law_ 2429 = .ok (.goto 326, 3) := by decide +kernel
theorem dL_law__2432 : decode cL_law_ 2432 = .ok (.aload_n 1, 1) := by decide +kernel
theorem dL_law__2433 : decode cL_law_ 2433 = .ok (.aload_n 0, 1) := by decide +kernel
theorem dL_law__2434 : decode cL_law_ 2434 = .ok (.iload 4, 2) := by decide +kernel
theorem dL_law__2436 : decode cL_law_ 2436 = .ok (.iconst 1, 1) := by decide +kernel
theorem dL_law__2437 : decode cL_law_ 2437 = .ok (.iadd, 1) := by decide +kernel
theorem dL_law__2438 : decode cL_law_ 2438 = .ok (.iaload, 1) := by decide +kernel
theorem dL_law__2439 : decode cL_law_ 2439 = .ok (.aload_n 0, 1) := by decide +kernel
theorem dL_law__2440 : decode cL_law_ 2440 = .ok (.iload 4, 2) := by decide +kernel
theorem dL_law__2442 : decode cL_law_ 2442 = .ok (.iconst 2, 1) := by decide +kernel
theorem dL_law__2443 : decode cL_law_ 2443 = .ok (.iadd, 1) := by decide +kernel
theorem dL_law__2444 : decode cL_law_ 2444 = .ok (.iaload, 1) := by decide +kernel
theorem dL_law__2445 : decode cL_law_ 2445 = .ok (.ifCond .eq 7, 3) := by decide +kernel
theorem dL_law__2448 : decode cL_law_ 2448 = .ok (.iconst 1, 1) := by decide +kernel
theorem dL_law__2449 : decode cL_law_ 2449 = .ok (.goto 4, 3) := by decide +kernel
theorem dL_law__2452 : decode cL_law_ 2452 = .ok (.iconst 0, 1) := by decide +kernel
theorem dL_law__2453 : decode cL_law_ 2453 = .ok (.aload_n 3, 1) := by decide +kernel
theorem dL_law__2454 : decode cL_law_ 2454 = .ok (.invokestatic 272, 3) := by decide +kernel
theorem dL_law__2457 : decode cL_law_ 2457 = .ok (.istore 5, 2) := by decide +kernel
theorem dL_law__2459 : decode cL_law_ 2459 = .ok (.aload_n 2, 1) := by decide +kernel
theorem dL_law__2460 : decode cL_law_ 2460 = .ok (.aload_n 0, 1) := by decide +kernel
theorem dL_law__2461 : decode cL_law_ 2461 = .ok (.iload 4, 2) := by decide +kernel
theorem dL_law__2463 : decode cL_law_ 2463 = .ok (.iconst 1, 1) := by decide +kernel
theorem dL_law__2464 : decode cL_law_ 2464 = .ok (.iadd, 1) := by decide +kernel
theorem dL_law__2465 : decode cL_law_ 2465 = .ok (.iaload, 1) := by decide +kernel
theorem dL_law__2466 : decode cL_law_ 2466 = .ok (.aload_n 0, 1) := by decide +kernel
theorem dL_law__2467 : decode cL_law_ 2467 = .ok (.iload 4, 2) := by decide +kernel
theorem dL_law__2469 : decode cL_law_ 2469 = .ok (.iconst 2, 1) := by decide +kernel
theorem dL_law__2470 : decode cL_law_ 2470 = .ok (.iadd, 1) := by decide +kernel
theorem dL_law__2471 : decode cL_law_ 2471 = .ok (.iaload, 1) := by decide +kernel
theorem dL_law__2472 : decode cL_law_ 2472 = .ok (.ifCond .eq 7, 3) := by decide +kernel
theorem dL_law__2475 : decode cL_law_ 2475 = .ok (.iconst 1, 1) := by decide +kernel
theorem dL_law__2476 : decode cL_law_ 2476 = .ok (.goto 4, 3) := by decide +kernel
theorem dL_law__2479 : decode cL_law_ 2479 = .ok (.iconst 0, 1) := by decide +kernel
theorem dL_law__2480 : decode cL_law_ 2480 = .ok (.invokevirtual 274, 3) := by decide +kernel
theorem dL_law__2483 : decode cL_law_ 2483 = .ok (.istore 6, 2) := by decide +kernel
theorem dL_law__2485 : decode cL_law_ 2485 = .ok (.aload_n 2, 1) := by decide +kernel
theorem dL_law__2486 : decode cL_law_ 2486 = .ok (.invokevirtual 136, 3) := by decide +kernel
theorem dL_law__2489 : decode cL_law_ 2489 = .ok (.iload 5, 2) := by decide +kernel
theorem dL_law__2491 : decode cL_law_ 2491 = .ok (.if_icmp .eq 5, 3) := by decide +kernel
theorem dL_law__2494 : decode cL_law_ 2494 = .ok (.iconst 0, 1) := by decide +kernel
theorem dL_law__2495 : decode cL_law_ 2495 = .ok (.ireturn, 1) := by decide +kernel
theorem dL_law__2496 : decode cL_law_ 2496 = .ok (.iload 5, 2) := by decide +kernel
theorem dL_law__2498 : decode cL_law_ 2498 = .ok (.ifCond .ne 15, 3) := by decide +kernel
theorem dL_law__2501 : decode cL_law_ 2501 = .ok (.aload_n 3, 1) := by decide +kernel
theorem dL_law__2502 : decode cL_law_ 2502 = .ok (.iconst 0, 1) := by decide +kernel
theorem dL_law__2503 : decode cL_law_ 2503 = .ok (.laload, 1) := by decide +kernel
theorem dL_law__2504 : decode cL_law_ 2504 = .ok (.iload 6, 2) := by decide +kernel
theorem dL_law__2506 : decode cL_law_ 2506 = .ok (.i2l, 1) := by decide +kernel
theorem dL_law__2507 : decode cL_law_ 2507 = .ok (.lcmp, 1) := by decide +kernel
theorem dL_law__2508 : decode cL_law_ 2508 = .ok (.ifCond .eq 5, 3) := by decide +kernel
theorem dL_law__2511 : decode cL_law_ 2511 = .ok (.iconst 0, 1) := by decide +kernel
theorem dL_law__2512 : decode cL_law_ 2512 = .ok (.ireturn, 1) := by decide +kernel
theorem dL_law__2513 : decode cL_law_ 2513 = .ok (.goto 242, 3) := by decide +kernel
theorem dL_law__2516 : decode cL_law_ 2516 = .ok (.aload_n 1, 1) := by decide +kernel
theorem dL_law__2517 : decode cL_law_ 2517 = .ok (.aload_n 0, 1) := by decide +kernel
theorem dL_law__2518 : decode cL_law_ 2518 = .ok (.iload 4, 2) := by decide +kernel
theorem dL_law__2520 : decode cL_law_ 2520 = .ok (.iconst 1, 1) := by decide +kernel
theorem dL_law__2521 : decode cL_law_ 2521 = .ok (.iadd, 1) := by decide +kernel
theorem dL_law__2522 : decode cL_law_ 2522 = .ok (.iaload, 1) := by decide +kernel
theorem dL_law__2523 : decode cL_law_ 2523 = .ok (.aload_n 0, 1) := by decide +kernel
theorem dL_law__2524 : decode cL_law_ 2524 = .ok (.iload 4, 2) := by decide +kernel
theorem dL_law__2526 : decode cL_law_ 2526 = .ok (.iconst 2, 1) := by decide +kernel
theorem dL_law__2527 : decode cL_law_ 2527 = .ok (.iadd, 1) := by decide +kernel
theorem dL_law__2528 : decode cL_law_ 2528 = .ok (.iaload, 1) := by decide +kernel
theorem dL_law__2529 : decode cL_law_ 2529 = .ok (.ifCond .eq 7, 3) := by decide +kernel
theorem dL_law__2532 : decode cL_law_ 2532 = .ok (.iconst 1, 1) := by decide +kernel
theorem dL_law__2533 : decode cL_law_ 2533 = .ok (.goto 4, 3) := by decide +kernel
theorem dL_law__2536 : decode cL_law_ 2536 = .ok (.iconst 0, 1) := by decide +kernel
theorem dL_law__2537 : decode cL_law_ 2537 = .ok (.aload_n 3, 1) := by decide +kernel
theorem dL_law__2538 : decode cL_law_ 2538 = .ok (.invokestatic 275, 3) := by decide +kernel
theorem dL_law__2541 : decode cL_law_ 2541 = .ok (.istore 5, 2) := by decide +kernel
theorem dL_law__2543 : decode cL_law_ 2543 = .ok (.aload_n 2, 1) := by decide +kernel
theorem dL_law__2544 : decode cL_law_ 2544 = .ok (.aload_n 0, 1) := by decide +kernel
theorem dL_law__2545 : decode cL_law_ 2545 = .ok (.iload 4, 2) := by decide +kernel
theorem dL_law__2547 : decode cL_law_ 2547 = .ok (.iconst 1, 1) := by decide +kernel
theorem dL_law__2548 : decode cL_law_ 2548 = .ok (.iadd, 1) := by decide +kernel
theorem dL_law__2549 : decode cL_law_ 2549 = .ok (.iaload, 1) := by decide +kernel
theorem dL_law__2550 : decode cL_law_ 2550 = .ok (.aload_n 0, 1) := by decide +kernel
theorem dL_law__2551 : decode cL_law_ 2551 = .ok (.iload 4, 2) := by decide +kernel
theorem dL_law__2553 : decode cL_law_ 2553 = .ok (.iconst 2, 1) := by decide +kernel
theorem dL_law__2554 : decode cL_law_ 2554 = .ok (.iadd, 1) := by decide +kernel
theorem dL_law__2555 : decode cL_law_ 2555 = .ok (.iaload, 1) := by decide +kernel
theorem dL_law__2556 : decode cL_law_ 2556 = .ok (.ifCond .eq 7, 3) := by decide +kernel
theorem dL_law__2559 : decode cL_law_ 2559 = .ok (.iconst 1, 1) := by decide +kernel
theorem dL_law__2560 : decode cL_law_ 2560 = .ok (.goto 4, 3) := by decide +kernel
theorem dL_law__2563 : decode cL_law_ 2563 = .ok (.iconst 0, 1) := by decide +kernel
theorem dL_law__2564 : decode cL_law_ 2564 = .ok (.invokevirtual 277, 3) := by decide +kernel
theorem dL_law__2567 : decode cL_law_ 2567 = .ok (.istore 6, 2) := by decide +kernel
theorem dL_law__2569 : decode cL_law_ 2569 = .ok (.aload_n 2, 1) := by decide +kernel
theorem dL_law__2570 : decode cL_law_ 2570 = .ok (.invokevirtual 136, 3) := by decide +kernel
theorem dL_law__2573 : decode cL_law_ 2573 = .ok (.iload 5, 2) := by decide +kernel
theorem dL_law__2575 : decode cL_law_ 2575 = .ok (.if_icmp .eq 5, 3) := by decide +kernel
theorem dL_law__2578 : decode cL_law_ 2578 = .ok (.iconst 0, 1) := by decide +kernel
theorem dL_law__2579 : decode cL_law_ 2579 = .ok (.ireturn, 1) := by decide +kernel
theorem dL_law__2580 : decode cL_law_ 2580 = .ok (.iload 5, 2) := by decide +kernel
theorem dL_law__2582 : decode cL_law_ 2582 = .ok (.ifCond .ne 15, 3) := by decide +kernel
theorem dL_law__2585 : decode cL_law_ 2585 = .ok (.aload_n 3, 1) := by decide +kernel
theorem dL_law__2586 : decode cL_law_ 2586 = .ok (.iconst 0, 1) := by decide +kernel
theorem dL_law__2587 : decode cL_law_ 2587 = .ok (.laload, 1) := by decide +kernel
theorem dL_law__2588 : decode cL_law_ 2588 = .ok (.iload 6, 2) := by decide +kernel
theorem dL_law__2590 : decode cL_law_ 2590 = .ok (.i2l, 1) := by decide +kernel
theorem dL_law__2591 : decode cL_law_ 2591 = .ok (.lcmp, 1) := by decide +kernel
theorem dL_law__2592 : decode cL_law_ 2592 = .ok (.ifCond .eq 5, 3) := by decide +kernel
theorem dL_law__2595 : decode cL_law_ 2595 = .ok (.iconst 0, 1) := by decide +kernel
theorem dL_law__2596 : decode cL_law_ 2596 = .ok (.ireturn, 1) := by decide +kernel
theorem dL_law__2597 : decode cL_law_ 2597 = .ok (.goto 158, 3) := by decide +kernel
theorem dL_law__2600 : decode cL_law_ 2600 = .ok (.aload_n 1, 1) := by decide +kernel
theorem dL_law__2601 : decode cL_law_ 2601 = .ok (.aload_n 0, 1) := by decide +kernel
theorem dL_law__2602 : decode cL_law_ 2602 = .ok (.iload 4, 2) := by decide +kernel
theorem dL_law__2604 : decode cL_law_ 2604 = .ok (.iconst 1, 1) := by decide +kernel
theorem dL_law__2605 : decode cL_law_ 2605 = .ok (.iadd, 1) := by decide +kernel
theorem dL_law__2606 : decode cL_law_ 2606 = .ok (.iaload, 1) := by decide +kernel
theorem dL_law__2607 : decode cL_law_ 2607 = .ok (.aload_n 0, 1) := by decide +kernel
theorem dL_law__2608 : decode cL_law_ 2608 = .ok (.iload 4, 2) := by decide +kernel
theorem dL_law__2610 : decode cL_law_ 2610 = .ok (.iconst 2, 1) := by decide +kernel
theorem dL_law__2611 : decode cL_law_ 2611 = .ok (.iadd, 1) := by decide +kernel
theorem dL_law__2612 : decode cL_law_ 2612 = .ok (.iaload, 1) := by decide +kernel
theorem dL_law__2613 : decode cL_law_ 2613 = .ok (.aload_n 3, 1) := by decide +kernel
theorem dL_law__2614 : decode cL_law_ 2614 = .ok (.invokestatic 278, 3) := by decide +kernel
theorem dL_law__2617 : decode cL_law_ 2617 = .ok (.istore 5, 2) := by decide +kernel
theorem dL_law__2619 : decode cL_law_ 2619 = .ok (.aload_n 2, 1) := by decide +kernel
theorem dL_law__2620 : decode cL_law_ 2620 = .ok (.aload_n 0, 1) := by decide +kernel
theorem dL_law__2621 : decode cL_law_ 2621 = .ok (.iload 4, 2) := by decide +kernel
theorem dL_law__2623 : decode cL_law_ 2623 = .ok (.iconst 1, 1) := by decide +kernel
theorem dL_law__2624 : decode cL_law_ 2624 = .ok (.iadd, 1) := by decide +kernel
theorem dL_law__2625 : decode cL_law_ 2625 = .ok (.iaload, 1) := by decide +kernel
theorem dL_law__2626 : decode cL_law_ 2626 = .ok (.aload_n 0, 1) := by decide +kernel
theorem dL_law__2627 : decode cL_law_ 2627 = .ok (.iload 4, 2) := by decide +kernel
theorem dL_law__2629 : decode cL_law_ 2629 = .ok (.iconst 2, 1) := by decide +kernel
theorem dL_law__2630 : decode cL_law_ 2630 = .ok (.iadd, 1) := by decide +kernel
theorem dL_law__2631 : decode cL_law_ 2631 = .ok (.iaload, 1) := by decide +kernel
theorem dL_law__2632 : decode cL_law_ 2632 = .ok (.invokevirtual 280, 3) := by decide +kernel
theorem dL_law__2635 : decode cL_law_ 2635 = .ok (.istore 6, 2) := by decide +kernel
theorem dL_law__2637 : decode cL_law_ 2637 = .ok (.aload_n 2, 1) := by decide +kernel
theorem dL_law__2638 : decode cL_law_ 2638 = .ok (.invokevirtual 136, 3) := by decide +kernel
theorem dL_law__2641 : decode cL_law_ 2641 = .ok (.iload 5, 2) := by decide +kernel
theorem dL_law__2643 : decode cL_law_ 2643 = .ok (.if_icmp .eq 5, 3) := by decide +kernel
theorem dL_law__2646 : decode cL_law_ 2646 = .ok (.iconst 0, 1) := by decide +kernel
theorem dL_law__2647 : decode cL_law_ 2647 = .ok (.ireturn, 1) := by decide +kernel
theorem dL_law__2648 : decode cL_law_ 2648 = .ok (.iload 5, 2) := by decide +kernel
theorem dL_law__2650 : decode cL_law_ 2650 = .ok (.ifCond .ne 15, 3) := by decide +kernel
theorem dL_law__2653 : decode cL_law_ 2653 = .ok (.aload_n 3, 1) := by decide +kernel
theorem dL_law__2654 : decode cL_law_ 2654 = .ok (.iconst 0, 1) := by decide +kernel
theorem dL_law__2655 : decode cL_law_ 2655 = .ok (.laload, 1) := by decide +kernel
theorem dL_law__2656 : decode cL_law_ 2656 = .ok (.iload 6, 2) := by decide +kernel
theorem dL_law__2658 : decode cL_law_ 2658 = .ok (.i2l, 1) := by decide +kernel
theorem dL_law__2659 : decode cL_law_ 2659 = .ok (.lcmp, 1) := by decide +kernel
theorem dL_law__2660 : decode cL_law_ 2660 = .ok (.ifCond .eq 5, 3) := by decide +kernel
theorem dL_law__2663 : decode cL_law_ 2663 = .ok (.iconst 0, 1) := by decide +kernel
theorem dL_law__2664 : decode cL_law_ 2664 = .ok (.ireturn, 1) := by decide +kernel
theorem dL_law__2665 : decode cL_law_ 2665 = .ok (.goto 90, 3) := by decide +kernel
theorem dL_law__2668 : decode cL_law_ 2668 = .ok (.aload_n 1, 1) := by decide +kernel
theorem dL_law__2669 : decode cL_law_ 2669 = .ok (.aload_n 0, 1) := by decide +kernel
theorem dL_law__2670 : decode cL_law_ 2670 = .ok (.iload 4, 2) := by decide +kernel
theorem dL_law__2672 : decode cL_law_ 2672 = .ok (.iconst 1, 1) := by decide +kernel
theorem dL_law__2673 : decode cL_law_ 2673 = .ok (.iadd, 1) := by decide +kernel
theorem dL_law__2674 : decode cL_law_ 2674 = .ok (.iaload, 1) := by decide +kernel
theorem dL_law__2675 : decode cL_law_ 2675 = .ok (.invokevirtual 281, 3) := by decide +kernel
theorem dL_law__2678 : decode cL_law_ 2678 = .ok (.aload_n 2, 1) := by decide +kernel
theorem dL_law__2679 : decode cL_law_ 2679 = .ok (.aload_n 0, 1) := by decide +kernel
theorem dL_law__2680 : decode cL_law_ 2680 = .ok (.iload 4, 2) := by decide +kernel
theorem dL_law__2682 : decode cL_law_ 2682 = .ok (.iconst 1, 1) := by decide +kernel
theorem dL_law__2683 : decode cL_law_ 2683 = .ok (.iadd, 1) := by decide +kernel
theorem dL_law__2684 : decode cL_law_ 2684 = .ok (.iaload, 1) := by decide +kernel
theorem dL_law__2685 : decode cL_law_ 2685 = .ok (.invokevirtual 284, 3) := by decide +kernel
theorem dL_law__2688 : decode cL_law_ 2688 = .ok (.if_icmp .eq 67, 3) := by decide +kernel
theorem dL_law__2691 : decode cL_law_ 2691 = .ok (.iconst 0, 1) := by decide +kernel
theorem dL_law__2692 : decode cL_law_ 2692 = .ok (.ireturn, 1) := by decide +kernel
theorem dL_law__2693 : decode cL_law_ 2693 = .ok (.aload_n 1, 1) := by decide +kernel
theorem dL_law__2694 : decode cL_law_ 2694 = .ok (.invokevirtual 285, 3) := by decide +kernel
theorem dL_law__2697 : decode cL_law_ 2697 = .ok (.aload_n 2, 1) := by decide +kernel
theorem dL_law__2698 : decode cL_law_ 2698 = .ok (.invokevirtual 288, 3) := by decide +kernel
theorem dL_law__2701 : decode cL_law_ 2701 = .ok (.if_icmp .eq 54, 3) := by decide +kernel
theorem dL_law__2704 : decode cL_law_ 2704 = .ok (.iconst 0, 1) := by decide +kernel
theorem dL_law__2705 : decode cL_law_ 2705 = .ok (.ireturn, 1) := by decide +kernel
theorem dL_law__2706 : decode cL_law_ 2706 = .ok (.aload_n 1, 1) := by decide +kernel
theorem dL_law__2707 : decode cL_law_ 2707 = .ok (.invokevirtual 289, 3) := by decide +kernel
theorem dL_law__2710 : decode cL_law_ 2710 = .ok (.aload_n 2, 1) := by decide +kernel
theorem dL_law__2711 : decode cL_law_ 2711 = .ok (.invokevirtual 292, 3) := by decide +kernel
theorem dL_law__2714 : decode cL_law_ 2714 = .ok (.goto 41, 3) := by decide +kernel
theorem dL_law__2717 : decode cL_law_ 2717 = .ok (.aload_n 1, 1) := by decide +kernel
theorem dL_law__2718 : decode cL_law_ 2718 = .ok (.invokevirtual 293, 3) := by decide +kernel
theorem dL_law__2721 : decode cL_law_ 2721 = .ok (.aload_n 2, 1) := by decide +kernel
theorem dL_law__2722 : decode cL_law_ 2722 = .ok (.invokevirtual 296, 3) := by decide +kernel
theorem dL_law__2725 : decode cL_law_ 2725 = .ok (.if_icmp .eq 30, 3) := by decide +kernel
theorem dL_law__2728 : decode cL_law_ 2728 = .ok (.iconst 0, 1) := by decide +kernel
theorem dL_law__2729 : decode cL_law_ 2729 = .ok (.ireturn, 1) := by decide +kernel
theorem dL_law__2730 : decode cL_law_ 2730 = .ok (.aload_n 1, 1) := by decide +kernel
theorem dL_law__2731 : decode cL_law_ 2731 = .ok (.aload_n 0, 1) := by decide +kernel
theorem dL_law__2732 : decode cL_law_ 2732 = .ok (.iload 4, 2) := by decide +kernel
theorem dL_law__2734 : decode cL_law_ 2734 = .ok (.iconst 1, 1) := by decide +kernel
theorem dL_law__2735 : decode cL_law_ 2735 = .ok (.iadd, 1) := by decide +kernel
theorem dL_law__2736 : decode cL_law_ 2736 = .ok (.iaload, 1) := by decide +kernel
theorem dL_law__2737 : decode cL_law_ 2737 = .ok (.invokevirtual 297, 3) := by decide +kernel
theorem dL_law__2740 : decode cL_law_ 2740 = .ok (.aload_n 2, 1) := by decide +kernel
theorem dL_law__2741 : decode cL_law_ 2741 = .ok (.aload_n 0, 1) := by decide +kernel
theorem dL_law__2742 : decode cL_law_ 2742 = .ok (.iload 4, 2) := by decide +kernel
theorem dL_law__2744 : decode cL_law_ 2744 = .ok (.iconst 1, 1) := by decide +kernel
theorem dL_law__2745 : decode cL_law_ 2745 = .ok (.iadd, 1) := by decide +kernel
theorem dL_law__2746 : decode cL_law_ 2746 = .ok (.iaload, 1) := by decide +kernel
theorem dL_law__2747 : decode cL_law_ 2747 = .ok (.invokevirtual 300, 3) := by decide +kernel
theorem dL_law__2750 : decode cL_law_ 2750 = .ok (.if_icmp .eq 5, 3) := by decide +kernel
theorem dL_law__2753 : decode cL_law_ 2753 = .ok (.iconst 0, 1) := by decide +kernel
theorem dL_law__2754 : decode cL_law_ 2754 = .ok (.ireturn, 1) := by decide +kernel
theorem dL_law__2755 : decode cL_law_ 2755 = .ok (.iinc 4 6, 3) := by decide +kernel
theorem dL_law__2758 : decode cL_law_ 2758 = .ok (.goto (-2735), 3) := by decide +kernel
theorem dL_law__2761 : decode cL_law_ 2761 = .ok (.iconst 1, 1) := by decide +kernel
theorem dL_law__2762 : decode cL_law_ 2762 = .ok (.ireturn, 1) := by decide +kernel
