theorem dL_promise_0 : decode cL_promise 0 = .ok (.aload_n 1, 1) := by decide +kernel
theorem dL_promise_1 : decode cL_promise 1 = .ok (.iconst 0, 1) := by decide +kernel
theorem dL_promise_2 : decode cL_promise 2 = .ok (.aload_n 0, 1) := by decide +kernel
theorem dL_promise_3 : decode cL_promise 3 = .ok (.invokevirtual 7, 3) := by decide +kernel
theorem dL_promise_6 : decode cL_promise 6 = .ok (.i2l, 1) := by decide +kernel
theorem dL_promise_7 : decode cL_promise 7 = .ok (.lastore, 1) := by decide +kernel
theorem dL_promise_8 : decode cL_promise 8 = .ok (.goto 6, 3) := by decide +kernel
theorem dL_promise_11 : decode cL_promise 11 = .ok (.astore_n 2, 1) := by decide +kernel
theorem dL_promise_12 : decode cL_promise 12 = .ok (.iconst 1, 1) := by decide +kernel
theorem dL_promise_13 : decode cL_promise 13 = .ok (.ireturn, 1) := by decide +kernel
theorem dL_promise_14 : decode cL_promise 14 = .ok (.iconst 0, 1) := by decide +kernel
theorem dL_promise_15 : decode cL_promise 15 = .ok (.ireturn, 1) := by decide +kernel
theorem dL_handler_0 : decode cL_handler 0 = .ok (.aload_n 3, 1) := by decide +kernel
theorem dL_handler_1 : decode cL_handler 1 = .ok (.iconst 0, 1) := by decide +kernel
theorem dL_handler_2 : decode cL_handler 2 = .ok (.aload_n 0, 1) := by decide +kernel
theorem dL_handler_3 : decode cL_handler 3 = .ok (.iload_n 1, 1) := by decide +kernel
theorem dL_handler_4 : decode cL_handler 4 = .ok (.iload_n 2, 1) := by decide +kernel
theorem dL_handler_5 : decode cL_handler 5 = .ok (.invokevirtual 15, 3) := by decide +kernel
theorem dL_handler_8 : decode cL_handler 8 = .ok (.i2l, 1) := by decide +kernel
theorem dL_handler_9 : decode cL_handler 9 = .ok (.lastore, 1) := by decide +kernel
theorem dL_handler_10 : decode cL_handler 10 = .ok (.goto 11, 3) := by decide +kernel
theorem dL_handler_13 : decode cL_handler 13 = .ok (.astore 4, 2) := by decide +kernel
theorem dL_handler_15 : decode cL_handler 15 = .ok (.iconst 1, 1) := by decide +kernel
theorem dL_handler_16 : decode cL_handler 16 = .ok (.ireturn, 1) := by decide +kernel
theorem dL_handler_17 : decode cL_handler 17 = .ok (.astore 4, 2) := by decide +kernel
theorem dL_handler_19 : decode cL_handler 19 = .ok (.iconst 2, 1) := by decide +kernel
theorem dL_handler_20 : decode cL_handler 20 = .ok (.ireturn, 1) := by decide +kernel
theorem dL_handler_21 : decode cL_handler 21 = .ok (.iconst 0, 1) := by decide +kernel
theorem dL_handler_22 : decode cL_handler 22 = .ok (.ireturn, 1) := by decide +kernel
theorem dL_thenable_0 : decode cL_thenable 0 = .ok (.aload 6, 2) := by decide +kernel
theorem dL_thenable_2 : decode cL_thenable 2 = .ok (.iconst 0, 1) := by decide +kernel
theorem dL_thenable_3 : decode cL_thenable 3 = .ok (.aload_n 0, 1) := by decide +kernel
theorem dL_thenable_4 : decode cL_thenable 4 = .ok (.iload_n 1, 1) := by decide +kernel
theorem dL_thenable_5 : decode cL_thenable 5 = .ok (.iload_n 2, 1) := by decide +kernel
theorem dL_thenable_6 : decode cL_thenable 6 = .ok (.iload_n 3, 1) := by decide +kernel
theorem dL_thenable_7 : decode cL_thenable 7 = .ok (.iload 4, 2) := by decide +kernel
theorem dL_thenable_9 : decode cL_thenable 9 = .ok (.iload 5, 2) := by decide +kernel
theorem dL_thenable_11 : decode cL_thenable 11 = .ok (.invokevirtual 21, 3) := by decide +kernel
theorem dL_thenable_14 : decode cL_thenable 14 = .ok (.i2l, 1) := by decide +kernel
theorem dL_thenable_15 : decode cL_thenable 15 = .ok (.lastore, 1) := by decide +kernel
theorem dL_thenable_16 : decode cL_thenable 16 = .ok (.goto 11, 3) := by decide +kernel
theorem dL_thenable_19 : decode cL_thenable 19 = .ok (.astore 7, 2) := by decide +kernel
theorem dL_thenable_21 : decode cL_thenable 21 = .ok (.iconst 1, 1) := by decide +kernel
theorem dL_thenable_22 : decode cL_thenable 22 = .ok (.ireturn, 1) := by decide +kernel
theorem dL_thenable_23 : decode cL_thenable 23 = .ok (.astore 7, 2) := by decide +kernel
theorem dL_thenable_25 : decode cL_thenable 25 = .ok (.iconst 2, 1) := by decide +kernel
theorem dL_thenable_26 : decode cL_thenable 26 = .ok (.ireturn, 1) := by decide +kernel
theorem dL_thenable_27 : decode cL_thenable 27 = .ok (.iconst 0, 1) := by decide +kernel
theorem dL_thenable_28 : decode cL_thenable 28 = .ok (.ireturn, 1) := by decide +kernel
theorem dL_settle_0 : decode cL_settle 0 = .ok (.aload 4, 2) := by decide +kernel
theorem dL_settle_2 : decode cL_settle 2 = .ok (.iconst 0, 1) := by decide +kernel
theorem dL_settle_3 : decode cL_settle 3 = .ok (.aload_n 0, 1) := by decide +kernel
theorem dL_settle_4 : decode cL_settle 4 = .ok (.iload_n 1, 1) := by decide +kernel
theorem dL_settle_5 : decode cL_settle 5 = .ok (.iload_n 2, 1) := by decide +kernel
theorem dL_settle_6 : decode cL_settle 6 = .ok (.iload_n 3, 1) := by decide +kernel
theorem dL_settle_7 : decode cL_settle 7 = .ok (.invokevirtual 25, 3) := by decide +kernel
theorem dL_settle_10 : decode cL_settle 10 = .ok (.ifCond .eq 7, 3) := by decide +kernel
theorem dL_settle_13 : decode cL_settle 13 = .ok (.lconst 1, 1) := by decide +kernel
theorem dL_settle_14 : decode cL_settle 14 = .ok (.goto 4, 3) := by decide +kernel
theorem dL_settle_17 : decode cL_settle 17 = .ok (.lconst 0, 1) := by decide +kernel
theorem dL_settle_18 : decode cL_settle 18 = .ok (.lastore, 1) := by decide +kernel
theorem dL_settle_19 : decode cL_settle 19 = .ok (.goto 11, 3) := by decide +kernel
theorem dL_settle_22 : decode cL_settle 22 = .ok (.astore 5, 2) := by decide +kernel
theorem dL_settle_24 : decode cL_settle 24 = .ok (.iconst 1, 1) := by decide +kernel
theorem dL_settle_25 : decode cL_settle 25 = .ok (.ireturn, 1) := by decide +kernel
theorem dL_settle_26 : decode cL_settle 26 = .ok (.astore 5, 2) := by decide +kernel
theorem dL_settle_28 : decode cL_settle 28 = .ok (.iconst 2, 1) := by decide +kernel
theorem dL_settle_29 : decode cL_settle 29 = .ok (.ireturn, 1) := by decide +kernel
theorem dL_settle_30 : decode cL_settle 30 = .ok (.iconst 0, 1) := by decide +kernel
theorem dL_settle_31 : decode cL_settle 31 = .ok (.ireturn, 1) := by decide +kernel
theorem dL_later_0 : decode cL_later 0 = .ok (.aload 4, 2) := by decide +kernel
theorem dL_later_2 : decode cL_later 2 = .ok (.iconst 0, 1) := by decide +kernel
theorem dL_later_3 : decode cL_later 3 = .ok (.aload_n 0, 1) := by decide +kernel
theorem dL_later_4 : decode cL_later 4 = .ok (.iload_n 1, 1) := by decide +kernel
theorem dL_later_5 : decode cL_later 5 = .ok (.iload_n 2, 1) := by decide +kernel
theorem dL_later_6 : decode cL_later 6 = .ok (.iload_n 3, 1) := by decide +kernel
theorem dL_later_7 : decode cL_later 7 = .ok (.invokevirtual 29, 3) := by decide +kernel
theorem dL_later_10 : decode cL_later 10 = .ok (.i2l, 1) := by decide +kernel
theorem dL_later_11 : decode cL_later 11 = .ok (.lastore, 1) := by decide +kernel
theorem dL_later_12 : decode cL_later 12 = .ok (.goto 11, 3) := by decide +kernel
theorem dL_later_15 : decode cL_later 15 = .ok (.astore 5, 2) := by decide +kernel
theorem dL_later_17 : decode cL_later 17 = .ok (.iconst 1, 1) := by decide +kernel
theorem dL_later_18 : decode cL_later 18 = .ok (.ireturn, 1) := by decide +kernel
theorem dL_later_19 : decode cL_later 19 = .ok (.astore 5, 2) := by decide +kernel
theorem dL_later_21 : decode cL_later 21 = .ok (.iconst 2, 1) := by decide +kernel
theorem dL_later_22 : decode cL_later 22 = .ok (.ireturn, 1) := by decide +kernel
theorem dL_later_23 : decode cL_later 23 = .ok (.iconst 0, 1) := by decide +kernel
theorem dL_later_24 : decode cL_later 24 = .ok (.ireturn, 1) := by decide +kernel
theorem dL_then_0 : decode cL_then 0 = .ok (.aload 5, 2) := by decide +kernel
theorem dL_then_2 : decode cL_then 2 = .ok (.iconst 0, 1) := by decide +kernel
theorem dL_then_3 : decode cL_then 3 = .ok (.aload_n 0, 1) := by decide +kernel
theorem dL_then_4 : decode cL_then 4 = .ok (.iload_n 1, 1) := by decide +kernel
theorem dL_then_5 : decode cL_then 5 = .ok (.iload_n 2, 1) := by decide +kernel
theorem dL_then_6 : decode cL_then 6 = .ok (.iload_n 3, 1) := by decide +kernel
theorem dL_then_7 : decode cL_then 7 = .ok (.iload 4, 2) := by decide +kernel
theorem dL_then_9 : decode cL_then 9 = .ok (.invokevirtual 33, 3) := by decide +kernel
theorem dL_then_12 : decode cL_then 12 = .ok (.i2l, 1) := by decide +kernel
theorem dL_then_13 : decode cL_then 13 = .ok (.lastore, 1) := by decide +kernel
theorem dL_then_14 : decode cL_then 14 = .ok (.goto 11, 3) := by decide +kernel
theorem dL_then_17 : decode cL_then 17 = .ok (.astore 6, 2) := by decide +kernel
theorem dL_then_19 : decode cL_then 19 = .ok (.iconst 1, 1) := by decide +kernel
theorem dL_then_20 : decode cL_then 20 = .ok (.ireturn, 1) := by decide +kernel
theorem dL_then_21 : decode cL_then 21 = .ok (.astore 6, 2) := by decide +kernel
theorem dL_then_23 : decode cL_then 23 = .ok (.iconst 2, 1) := by decide +kernel
theorem dL_then_24 : decode cL_then 24 = .ok (.ireturn, 1) := by decide +kernel
theorem dL_then_25 : decode cL_then 25 = .ok (.iconst 0, 1) := by decide +kernel
theorem dL_then_26 : decode cL_then 26 = .ok (.ireturn, 1) := by decide +kernel
theorem dL_lastly_0 : decode cL_lastly 0 = .ok (.aload_n 3, 1) := by decide +kernel
theorem dL_lastly_1 : decode cL_lastly 1 = .ok (.iconst 0, 1) := by decide +kernel
theorem dL_lastly_2 : decode cL_lastly 2 = .ok (.aload_n 0, 1) := by decide +kernel
theorem dL_lastly_3 : decode cL_lastly 3 = .ok (.iload_n 1, 1) := by decide +kernel
theorem dL_lastly_4 : decode cL_lastly 4 = .ok (.iload_n 2, 1) := by decide +kernel
theorem dL_lastly_5 : decode cL_lastly 5 = .ok (.invokevirtual 37, 3) := by decide +kernel
theorem dL_lastly_8 : decode cL_lastly 8 = .ok (.i2l, 1) := by decide +kernel
theorem dL_lastly_9 : decode cL_lastly 9 = .ok (.lastore, 1) := by decide +kernel
theorem dL_lastly_10 : decode cL_lastly 10 = .ok (.goto 11, 3) := by decide +kernel
theorem dL_lastly_13 : decode cL_lastly 13 = .ok (.astore 4, 2) := by decide +kernel
theorem dL_lastly_15 : decode cL_lastly 15 = .ok (.iconst 1, 1) := by decide +kernel
theorem dL_lastly_16 : decode cL_lastly 16 = .ok (.ireturn, 1) := by decide +kernel
theorem dL_lastly_17 : decode cL_lastly 17 = .ok (.astore 4, 2) := by decide +kernel
theorem dL_lastly_19 : decode cL_lastly 19 = .ok (.iconst 2, 1) := by decide +kernel
theorem dL_lastly_20 : decode cL_lastly 20 = .ok (.ireturn, 1) := by decide +kernel
theorem dL_lastly_21 : decode cL_lastly 21 = .ok (.iconst 0, 1) := by decide +kernel
theorem dL_lastly_22 : decode cL_lastly 22 = .ok (.ireturn, 1) := by decide +kernel
theorem dL_wrap_0 : decode cL_wrap 0 = .ok (.aload_n 2, 1) := by decide +kernel
theorem dL_wrap_1 : decode cL_wrap 1 = .ok (.iconst 0, 1) := by decide +kernel
theorem dL_wrap_2 : decode cL_wrap 2 = .ok (.aload_n 0, 1) := by decide +kernel
theorem dL_wrap_3 : decode cL_wrap 3 = .ok (.iload_n 1, 1) := by decide +kernel
theorem dL_wrap_4 : decode cL_wrap 4 = .ok (.invokevirtual 40, 3) := by decide +kernel
theorem dL_wrap_7 : decode cL_wrap 7 = .ok (.i2l, 1) := by decide +kernel
theorem dL_wrap_8 : decode cL_wrap 8 = .ok (.lastore, 1) := by decide +kernel
theorem dL_wrap_9 : decode cL_wrap 9 = .ok (.goto 9, 3) := by decide +kernel
theorem dL_wrap_12 : decode cL_wrap 12 = .ok (.astore_n 3, 1) := by decide +kernel
theorem dL_wrap_13 : decode cL_wrap 13 = .ok (.iconst 1, 1) := by decide +kernel
theorem dL_wrap_14 : decode cL_wrap 14 = .ok (.ireturn, 1) := by decide +kernel
theorem dL_wrap_15 : decode cL_wrap 15 = .ok (.astore_n 3, 1) := by decide +kernel
theorem dL_wrap_16 : decode cL_wrap 16 = .ok (.iconst 2, 1) := by decide +kernel
theorem dL_wrap_17 : decode cL_wrap 17 = .ok (.ireturn, 1) := by decide +kernel
theorem dL_wrap_18 : decode cL_wrap 18 = .ok (.iconst 0, 1) := by decide +kernel
theorem dL_wrap_19 : decode cL_wrap 19 = .ok (.ireturn, 1) := by decide +kernel
theorem dL_broken_0 : decode cL_broken 0 = .ok (.aload_n 2, 1) := by decide +kernel
theorem dL_broken_1 : decode cL_broken 1 = .ok (.iconst 0, 1) := by decide +kernel
theorem dL_broken_2 : decode cL_broken 2 = .ok (.aload_n 0, 1) := by decide +kernel
theorem dL_broken_3 : decode cL_broken 3 = .ok (.iload_n 1, 1) := by decide +kernel
theorem dL_broken_4 : decode cL_broken 4 = .ok (.invokevirtual 44, 3) := by decide +kernel
theorem dL_broken_7 : decode cL_broken 7 = .ok (.i2l, 1) := by decide +kernel
theorem dL_broken_8 : decode cL_broken 8 = .ok (.lastore, 1) := by decide +kernel
theorem dL_broken_9 : decode cL_broken 9 = .ok (.goto 9, 3) := by decide +kernel
theorem dL_broken_12 : decode cL_broken 12 = .ok (.astore_n 3, 1) := by decide +kernel
theorem dL_broken_13 : decode cL_broken 13 = .ok (.iconst 1, 1) := by decide +kernel
theorem dL_broken_14 : decode cL_broken 14 = .ok (.ireturn, 1) := by decide +kernel
theorem dL_broken_15 : decode cL_broken 15 = .ok (.astore_n 3, 1) := by decide +kernel
theorem dL_broken_16 : decode cL_broken 16 = .ok (.iconst 2, 1) := by decide +kernel
theorem dL_broken_17 : decode cL_broken 17 = .ok (.ireturn, 1) := by decide +kernel
theorem dL_broken_18 : decode cL_broken 18 = .ok (.iconst 0, 1) := by decide +kernel
theorem dL_broken_19 : decode cL_broken 19 = .ok (.ireturn, 1) := by decide +kernel
theorem dL_item_0 : decode cL_item 0 = .ok (.aload_n 2, 1) := by decide +kernel
theorem dL_item_1 : decode cL_item 1 = .ok (.iconst 0, 1) := by decide +kernel
theorem dL_item_2 : decode cL_item 2 = .ok (.aload_n 0, 1) := by decide +kernel
theorem dL_item_3 : decode cL_item 3 = .ok (.iload_n 1, 1) := by decide +kernel
theorem dL_item_4 : decode cL_item 4 = .ok (.invokevirtual 47, 3) := by decide +kernel
theorem dL_item_7 : decode cL_item 7 = .ok (.i2l, 1) := by decide +kernel
theorem dL_item_8 : decode cL_item 8 = .ok (.lastore, 1) := by decide +kernel
theorem dL_item_9 : decode cL_item 9 = .ok (.goto 9, 3) := by decide +kernel
theorem dL_item_12 : decode cL_item 12 = .ok (.astore_n 3, 1) := by decide +kernel
theorem dL_item_13 : decode cL_item 13 = .ok (.iconst 1, 1) := by decide +kernel
theorem dL_item_14 : decode cL_item 14 = .ok (.ireturn, 1) := by decide +kernel
theorem dL_item_15 : decode cL_item 15 = .ok (.astore_n 3, 1) := by decide +kernel
theorem dL_item_16 : decode cL_item 16 = .ok (.iconst 2, 1) := by decide +kernel
theorem dL_item_17 : decode cL_item 17 = .ok (.ireturn, 1) := by decide +kernel
theorem dL_item_18 : decode cL_item 18 = .ok (.iconst 0, 1) := by decide +kernel
theorem dL_item_19 : decode cL_item 19 = .ok (.ireturn, 1) := by decide +kernel
theorem dL_combine_0 : decode cL_combine 0 = .ok (.aload_n 2, 1) := by decide +kernel
theorem dL_combine_1 : decode cL_combine 1 = .ok (.iconst 0, 1) := by decide +kernel
theorem dL_combine_2 : decode cL_combine 2 = .ok (.aload_n 0, 1) := by decide +kernel
theorem dL_combine_3 : decode cL_combine 3 = .ok (.iload_n 1, 1) := by decide +kernel
theorem dL_combine_4 : decode cL_combine 4 = .ok (.invokevirtual 50, 3) := by decide +kernel
theorem dL_combine_7 : decode cL_combine 7 = .ok (.i2l, 1) := by decide +kernel
theorem dL_combine_8 : decode cL_combine 8 = .ok (.lastore, 1) := by decide +kernel
theorem dL_combine_9 : decode cL_combine 9 = .ok (.goto 9, 3) := by decide +kernel
theorem dL_combine_12 : decode cL_combine 12 = .ok (.astore_n 3, 1) := by decide +kernel
theorem dL_combine_13 : decode cL_combine 13 = .ok (.iconst 1, 1) := by decide +kernel
theorem dL_combine_14 : decode cL_combine 14 = .ok (.ireturn, 1) := by decide +kernel
theorem dL_combine_15 : decode cL_combine 15 = .ok (.astore_n 3, 1) := by decide +kernel
theorem dL_combine_16 : decode cL_combine 16 = .ok (.iconst 2, 1) := by decide +kernel
theorem dL_combine_17 : decode cL_combine 17 = .ok (.ireturn, 1) := by decide +kernel
theorem dL_combine_18 : decode cL_combine 18 = .ok (.iconst 0, 1) := by decide +kernel
theorem dL_combine_19 : decode cL_combine 19 = .ok (.ireturn, 1) := by decide +kernel
theorem dL_async_0 : decode cL_async 0 = .ok (.aload_n 3, 1) := by decide +kernel
theorem dL_async_1 : decode cL_async 1 = .ok (.iconst 0, 1) := by decide +kernel
theorem dL_async_2 : decode cL_async 2 = .ok (.aload_n 0, 1) := by decide +kernel
theorem dL_async_3 : decode cL_async 3 = .ok (.iload_n 1, 1) := by decide +kernel
theorem dL_async_4 : decode cL_async 4 = .ok (.iload_n 2, 1) := by decide +kernel
theorem dL_async_5 : decode cL_async 5 = .ok (.invokevirtual 53, 3) := by decide +kernel
theorem dL_async_8 : decode cL_async 8 = .ok (.i2l, 1) := by decide +kernel
theorem dL_async_9 : decode cL_async 9 = .ok (.lastore, 1) := by decide +kernel
theorem dL_async_10 : decode cL_async 10 = .ok (.goto 11, 3) := by decide +kernel
theorem dL_async_13 : decode cL_async 13 = .ok (.astore 4, 2) := by decide +kernel
theorem dL_async_15 : decode cL_async 15 = .ok (.iconst 1, 1) := by decide +kernel
theorem dL_async_16 : decode cL_async 16 = .ok (.ireturn, 1) := by decide +kernel
theorem dL_async_17 : decode cL_async 17 = .ok (.astore 4, 2) := by decide +kernel
theorem dL_async_19 : decode cL_async 19 = .ok (.iconst 2, 1) := by decide +kernel
theorem dL_async_20 : decode cL_async 20 = .ok (.ireturn, 1) := by decide +kernel
theorem dL_async_21 : decode cL_async 21 = .ok (.iconst 0, 1) := by decide +kernel
theorem dL_async_22 : decode cL_async 22 = .ok (.ireturn, 1) := by decide +kernel
theorem dL_jobs_0 : decode cL_jobs 0 = .ok (.aload_n 2, 1) := by decide +kernel
theorem dL_jobs_1 : decode cL_jobs 1 = .ok (.iconst 0, 1) := by decide +kernel
theorem dL_jobs_2 : decode cL_jobs 2 = .ok (.aload_n 0, 1) := by decide +kernel
theorem dL_jobs_3 : decode cL_jobs 3 = .ok (.iload_n 1, 1) := by decide +kernel
theorem dL_jobs_4 : decode cL_jobs 4 = .ok (.invokevirtual 56, 3) := by decide +kernel
theorem dL_jobs_7 : decode cL_jobs 7 = .ok (.i2l, 1) := by decide +kernel
theorem dL_jobs_8 : decode cL_jobs 8 = .ok (.lastore, 1) := by decide +kernel
theorem dL_jobs_9 : decode cL_jobs 9 = .ok (.goto 6, 3) := by decide +kernel
theorem dL_jobs_12 : decode cL_jobs 12 = .ok (.astore_n 3, 1) := by decide +kernel
theorem dL_jobs_13 : decode cL_jobs 13 = .ok (.iconst 1, 1) := by decide +kernel
theorem dL_jobs_14 : decode cL_jobs 14 = .ok (.ireturn, 1) := by decide +kernel
theorem dL_jobs_15 : decode cL_jobs 15 = .ok (.iconst 0, 1) := by decide +kernel
theorem dL_jobs_16 : decode cL_jobs 16 = .ok (.ireturn, 1) := by decide +kernel
theorem dL_state_0 : decode cL_state 0 = .ok (.aload_n 2, 1) := by decide +kernel
theorem dL_state_1 : decode cL_state 1 = .ok (.iconst 0, 1) := by decide +kernel
theorem dL_state_2 : decode cL_state 2 = .ok (.aload_n 0, 1) := by decide +kernel
theorem dL_state_3 : decode cL_state 3 = .ok (.iload_n 1, 1) := by decide +kernel
theorem dL_state_4 : decode cL_state 4 = .ok (.invokevirtual 59, 3) := by decide +kernel
theorem dL_state_7 : decode cL_state 7 = .ok (.i2l, 1) := by decide +kernel
theorem dL_state_8 : decode cL_state 8 = .ok (.lastore, 1) := by decide +kernel
theorem dL_state_9 : decode cL_state 9 = .ok (.goto 6, 3) := by decide +kernel
theorem dL_state_12 : decode cL_state 12 = .ok (.astore_n 3, 1) := by decide +kernel
theorem dL_state_13 : decode cL_state 13 = .ok (.iconst 1, 1) := by decide +kernel
theorem dL_state_14 : decode cL_state 14 = .ok (.ireturn, 1) := by decide +kernel
theorem dL_state_15 : decode cL_state 15 = .ok (.iconst 0, 1) := by decide +kernel
theorem dL_state_16 : decode cL_state 16 = .ok (.ireturn, 1) := by decide +kernel
theorem dL_result_0 : decode cL_result 0 = .ok (.aload_n 2, 1) := by decide +kernel
theorem dL_result_1 : decode cL_result 1 = .ok (.iconst 0, 1) := by decide +kernel
theorem dL_result_2 : decode cL_result 2 = .ok (.aload_n 0, 1) := by decide +kernel
theorem dL_result_3 : decode cL_result 3 = .ok (.iload_n 1, 1) := by decide +kernel
theorem dL_result_4 : decode cL_result 4 = .ok (.invokevirtual 62, 3) := by decide +kernel
theorem dL_result_7 : decode cL_result 7 = .ok (.i2l, 1) := by decide +kernel
theorem dL_result_8 : decode cL_result 8 = .ok (.lastore, 1) := by decide +kernel
theorem dL_result_9 : decode cL_result 9 = .ok (.goto 6, 3) := by decide +kernel
theorem dL_result_12 : decode cL_result 12 = .ok (.astore_n 3, 1) := by decide +kernel
theorem dL_result_13 : decode cL_result 13 = .ok (.iconst 1, 1) := by decide +kernel
theorem dL_result_14 : decode cL_result 14 = .ok (.ireturn, 1) := by decide +kernel
theorem dL_result_15 : decode cL_result 15 = .ok (.iconst 0, 1) := by decide +kernel
theorem dL_result_16 : decode cL_result 16 = .ok (.ireturn, 1) := by decide +kernel
theorem dL_kind_0 : decode cL_kind 0 = .ok (.aload_n 2, 1) := by decide +kernel
theorem dL_kind_1 : decode cL_kind 1 = .ok (.iconst 0, 1) := by decide +kernel
theorem dL_kind_2 : decode cL_kind 2 = .ok (.aload_n 0, 1) := by decide +kernel
theorem dL_kind_3 : decode cL_kind 3 = .ok (.iload_n 1, 1) := by decide +kernel
theorem dL_kind_4 : decode cL_kind 4 = .ok (.invokevirtual 65, 3) := by decide +kernel
theorem dL_kind_7 : decode cL_kind 7 = .ok (.i2l, 1) := by decide +kernel
theorem dL_kind_8 : decode cL_kind 8 = .ok (.lastore, 1) := by decide +kernel
theorem dL_kind_9 : decode cL_kind 9 = .ok (.goto 6, 3) := by decide +kernel
theorem dL_kind_12 : decode cL_kind 12 = .ok (.astore_n 3, 1) := by decide +kernel
theorem dL_kind_13 : decode cL_kind 13 = .ok (.iconst 1, 1) := by decide +kernel
theorem dL_kind_14 : decode cL_kind 14 = .ok (.ireturn, 1) := by decide +kernel
theorem dL_kind_15 : decode cL_kind 15 = .ok (.iconst 0, 1) := by decide +kernel
theorem dL_kind_16 : decode cL_kind 16 = .ok (.ireturn, 1) := by decide +kernel
theorem dL_part_0 : decode cL_part 0 = .ok (.aload_n 3, 1) := by decide +kernel
theorem dL_part_1 : decode cL_part 1 = .ok (.iconst 0, 1) := by decide +kernel
theorem dL_part_2 : decode cL_part 2 = .ok (.aload_n 0, 1) := by decide +kernel
theorem dL_part_3 : decode cL_part 3 = .ok (.iload_n 1, 1) := by decide +kernel
theorem dL_part_4 : decode cL_part 4 = .ok (.iload_n 2, 1) := by decide +kernel
theorem dL_part_5 : decode cL_part 5 = .ok (.invokevirtual 68, 3) := by decide +kernel
theorem dL_part_8 : decode cL_part 8 = .ok (.i2l, 1) := by decide +kernel
theorem dL_part_9 : decode cL_part 9 = .ok (.lastore, 1) := by decide +kernel
theorem dL_part_10 : decode cL_part 10 = .ok (.goto 7, 3) := by decide +kernel
theorem dL_part_13 : decode cL_part 13 = .ok (.astore 4, 2) := by decide +kernel
theorem dL_part_15 : decode cL_part 15 = .ok (.iconst 1, 1) := by decide +kernel
theorem dL_part_16 : decode cL_part 16 = .ok (.ireturn, 1) := by decide +kernel
theorem dL_part_17 : decode cL_part 17 = .ok (.iconst 0, 1) := by decide +kernel
theorem dL_part_18 : decode cL_part 18 = .ok (.ireturn, 1) := by decide +kernel
theorem dL_count_0 : decode cL_count 0 = .ok (.aload_n 2, 1) := by decide +kernel
theorem dL_count_1 : decode cL_count 1 = .ok (.iconst 0, 1) := by decide +kernel
theorem dL_count_2 : decode cL_count 2 = .ok (.aload_n 0, 1) := by decide +kernel
theorem dL_count_3 : decode cL_count 3 = .ok (.iload_n 1, 1) := by decide +kernel
theorem dL_count_4 : decode cL_count 4 = .ok (.invokevirtual 71, 3) := by decide +kernel
theorem dL_count_7 : decode cL_count 7 = .ok (.i2l, 1) := by decide +kernel
theorem dL_count_8 : decode cL_count 8 = .ok (.lastore, 1) := by decide +kernel
theorem dL_count_9 : decode cL_count 9 = .ok (.goto 6, 3) := by decide +kernel
theorem dL_count_12 : decode cL_count 12 = .ok (.astore_n 3, 1) := by decide +kernel
theorem dL_count_13 : decode cL_count 13 = .ok (.iconst 1, 1) := by decide +kernel
theorem dL_count_14 : decode cL_count 14 = .ok (.ireturn, 1) := by decide +kernel
theorem dL_count_15 : decode cL_count 15 = .ok (.iconst 0, 1) := by decide +kernel
theorem dL_count_16 : decode cL_count 16 = .ok (.ireturn, 1) := by decide +kernel
set_option maxHeartbeats 4000000 in
set_option maxRecDepth 100000 in
theorem h_L_promise {l : Launch} (hst : l.stackTraces = false) {D : va_G} {A : Nat → Prop} {G : DG} {cJ : ClassId} (S : DS) (d : Nat) (o : Nat) (f : Nat → Int64) {k : Nat} {r : Int32} {S' : DS} {TC TZ : Nat} (hkd : dK S d = 12) (hq : q_X11_promise G.2.2 S d = some ((k, r), S', TC, TZ)) (hk : k = 0 ∨ k = 2) : Met l yL_promise (wL yL_promise cL_promise 3 [(0, 8, 11, 13)]) (rD 9 250 TC TZ) (va_Pc [.ref d, .ref o] (lPre D A G S o cJ f)) (lQ D A G o cJ (if k = 0 then 0 else 1) S' (if k = 0 then r.toInt64 else f 0)) TC TZ (lA A o) := by
  refine l_head hst (by decide) (Nat.le_of_ble_eq_true rfl) ?_
  intro p e s m args below meth c ls B htab hW ho hno hJ hl
  have hx := B.1
  have hb := B.2.1
  have hl : lv_has ls 3 [(0, .ref d), (1, .ref o)] := hl
  have hT : 0 + (TC + 0) = (rD 9 250 TC TZ).cells ∧ 0 + (TZ + 0) = (rD 9 250 TC TZ).slots := ⟨Nat.zero_add _, Nat.zero_add _⟩
  have hT2 : 0 + TC = (rD 9 250 TC TZ).cells ∧ 0 + TZ = (rD 9 250 TC TZ).slots := ⟨Nat.zero_add _, Nat.zero_add _⟩
  refine lv_aload_n hx hb dL_promise_0 rfl (lv_at hl 1 rfl) ?_
  refine lv_iconst (v := 0) hx hb dL_promise_1 (by decide) ?_
  refine lv_aload_n hx hb dL_promise_2 rfl (lv_at hl 0 rfl) ?_
  have hrun := x_runV (pc := 3) (ls := ls) (below := below) (e := e) (st := [.ref d, .int 0, .ref o]) (As := []) (rest := [.int 0, .ref o]) B hW hl.1 (d_recv B hW (ci := 11) rfl (dF_11 hkd) (by rw [hkd]; decide)) (c_X11_promise hst S d hq) (g_V u_106 u_107 u_108 u_1 u_109) y1_X11_promise rfl ⟨Nat.le_of_ble_eq_true rfl, Nat.le_of_ble_eq_true rfl⟩ hT rfl (Nat.le_of_ble_eq_true rfl) dL_promise_3
  refine vx_calli hrun (va_S.rf : va_S (lA A o) s.heap s.heap []) (fun _ _ h => Or.inl h) (fun _ h => Or.inl h) (fun _ _ h => Or.inl h) (fun E ce q9 u t H1 locs1 ht hvm hp hB hz hk1 hS hc hv hcl => ?_) (fun r1 u t H1 locs1 ht hvm hw hB hz hk1 hS => ?_)
  · obtain ⟨hk0, rfl⟩ := hp
    obtain ⟨rfl, hB⟩ := hB
    rw [ht] at hB
    have hoo := (hk1 o (Array.getElem?_eq_some_iff.mp ho).1 hno.1).trans ho
    rcases hk with rfl | rfl
    · exact absurd rfl hk0
    · refine l_catch1 (x := ⟨0, 8, 11, 13⟩) B htab (by decide) (by decide) u_105 un_3 hc hv hcl ?_
      refine lv_astore_n (lv' := [(2, .ref q9), (0, .ref d), (1, .ref o)]) hx hb dL_promise_11 rfl hl (by decide) rfl (fun ls hl => ?_)
      refine lv_iconst (v := 1) hx hb dL_promise_12 (by decide) ?_
      exact l_ret B ⟨_, hB⟩ hoo rfl hS hT2 dL_promise_13
  · obtain ⟨rfl, rfl, rfl⟩ := hw
    have hB : dH D A G u t.heap := hB
    rw [ht] at hB
    have hoo := (hk1 o (Array.getElem?_eq_some_iff.mp ho).1 hno.1).trans ho
    refine lv_i2l (v := r1.toInt64) hx hb dL_promise_6 rfl ?_
    refine l_store (F := lA A o) (H0 := s.heap) B hJ hoo dL_promise_7 hS (Or.inr rfl) (fun H2 locs2 ho2 hz2 hk2 hS2 => ?_)
    refine lv_goto (tgt := 14) hx hb dL_promise_8 (by decide) ?_
    refine lv_iconst (v := 0) hx hb dL_promise_14 (by decide) ?_
    exact l_ret B ⟨_, dH_any hB hz2 (fun q hq hK _ => hk2 q hq (dH_ne hB hno hK))⟩ ho2 rfl hS2 hT2 dL_promise_15
set_option maxHeartbeats 4000000 in
set_option maxRecDepth 100000 in
theorem h_L_handler {l : Launch} (hst : l.stackTraces = false) {D : va_G} {A : Nat → Prop} {G : DG} {cJ : ClassId} (S : DS) (d : Nat) (p1 p2 : Int32) (o : Nat) (f : Nat → Int64) {k : Nat} {r : Int32} {S' : DS} {TC TZ : Nat} (hkd : dK S d = 12) (hq : q_X11_handler G.2.2 S d p1 p2 = some ((k, r), S', TC, TZ)) (hk : k = 0 ∨ k = 1 ∨ k = 2) : Met l yL_handler (wL yL_handler cL_handler 5 [(0, 10, 13, 19), (0, 10, 17, 13)]) (rD 9 231 TC TZ) (va_Pc [.ref d, .int p1, .int p2, .ref o] (lPre D A G S o cJ f)) (lQ D A G o cJ (if k = 0 then 0 else if k = 1 then 1 else 2) S' (if k = 0 then r.toInt64 else f 0)) TC TZ (lA A o) := by
  refine l_head hst (by decide) (Nat.le_of_ble_eq_true rfl) ?_
  intro p e s m args below meth c ls B htab hW ho hno hJ hl
  have hx := B.1
  have hb := B.2.1
  have hl : lv_has ls 5 [(0, .ref d), (1, .int p1), (2, .int p2), (3, .ref o)] := hl
  have hT : 0 + (TC + 0) = (rD 9 231 TC TZ).cells ∧ 0 + (TZ + 0) = (rD 9 231 TC TZ).slots := ⟨Nat.zero_add _, Nat.zero_add _⟩
  have hT2 : 0 + TC = (rD 9 231 TC TZ).cells ∧ 0 + TZ = (rD 9 231 TC TZ).slots := ⟨Nat.zero_add _, Nat.zero_add _⟩
  refine lv_aload_n hx hb dL_handler_0 rfl (lv_at hl 3 rfl) ?_
  refine lv_iconst (v := 0) hx hb dL_handler_1 (by decide) ?_
  refine lv_aload_n hx hb dL_handler_2 rfl (lv_at hl 0 rfl) ?_
  refine lv_iload_n hx hb dL_handler_3 rfl (lv_at hl 1 rfl) ?_
  refine lv_iload_n hx hb dL_handler_4 rfl (lv_at hl 2 rfl) ?_
  have hrun := x_runV (pc := 5) (ls := ls) (below := below) (e := e) (st := [.int p2, .int p1, .ref d, .int 0, .ref o]) (As := [.int p1, .int p2]) (rest := [.int 0, .ref o]) B hW hl.1 (d_recv B hW (ci := 11) rfl (dF_11 hkd) (by rw [hkd]; decide)) (c_X11_handler hst S d p1 p2 hq) (g_V u_319 u_320 u_321 u_1 u_322) y1_X11_handler rfl ⟨Nat.le_of_ble_eq_true rfl, Nat.le_of_ble_eq_true rfl⟩ hT rfl (Nat.le_of_ble_eq_true rfl) dL_handler_5
  refine vx_calli hrun (va_S.rf : va_S (lA A o) s.heap s.heap []) (fun _ _ h => Or.inl h) (fun _ h => Or.inl h) (fun _ _ h => Or.inl h) (fun E ce q9 u t H1 locs1 ht hvm hp hB hz hk1 hS hc hv hcl => ?_) (fun r1 u t H1 locs1 ht hvm hw hB hz hk1 hS => ?_)
  · obtain ⟨hk0, rfl⟩ := hp
    obtain ⟨rfl, hB⟩ := hB
    rw [ht] at hB
    have hoo := (hk1 o (Array.getElem?_eq_some_iff.mp ho).1 hno.1).trans ho
    rcases hk with rfl | rfl | rfl
    · exact absurd rfl hk0
    · refine l_catch1 (x := ⟨0, 10, 13, 19⟩) B htab (by decide) (by decide) u_318 un_7 hc hv hcl ?_
      refine lv_astore (lv' := [(4, .ref q9), (0, .ref d), (1, .int p1), (2, .int p2), (3, .ref o)]) hx hb dL_handler_13 hl (by decide) rfl (fun ls hl => ?_)
      refine lv_iconst (v := 1) hx hb dL_handler_15 (by decide) ?_
      exact l_ret B ⟨_, hB⟩ hoo rfl hS hT2 dL_handler_16
    · refine l_catch2 (x0 := ⟨0, 10, 13, 19⟩) (x := ⟨0, 10, 17, 13⟩) B htab (by decide) u_318 uc_4 (by decide) (by decide) u_105 un_3 hc hv hcl ?_
      refine lv_astore (lv' := [(4, .ref q9), (0, .ref d), (1, .int p1), (2, .int p2), (3, .ref o)]) hx hb dL_handler_17 hl (by decide) rfl (fun ls hl => ?_)
      refine lv_iconst (v := 2) hx hb dL_handler_19 (by decide) ?_
      exact l_ret B ⟨_, hB⟩ hoo rfl hS hT2 dL_handler_20
  · obtain ⟨rfl, rfl, rfl⟩ := hw
    have hB : dH D A G u t.heap := hB
    rw [ht] at hB
    have hoo := (hk1 o (Array.getElem?_eq_some_iff.mp ho).1 hno.1).trans ho
    refine lv_i2l (v := r1.toInt64) hx hb dL_handler_8 rfl ?_
    refine l_store (F := lA A o) (H0 := s.heap) B hJ hoo dL_handler_9 hS (Or.inr rfl) (fun H2 locs2 ho2 hz2 hk2 hS2 => ?_)
    refine lv_goto (tgt := 21) hx hb dL_handler_10 (by decide) ?_
    refine lv_iconst (v := 0) hx hb dL_handler_21 (by decide) ?_
    exact l_ret B ⟨_, dH_any hB hz2 (fun q hq hK _ => hk2 q hq (dH_ne hB hno hK))⟩ ho2 rfl hS2 hT2 dL_handler_22
set_option maxHeartbeats 4000000 in
set_option maxRecDepth 100000 in
theorem h_L_thenable {l : Launch} (hst : l.stackTraces = false) {D : va_G} {A : Nat → Prop} {G : DG} {cJ : ClassId} (S : DS) (d : Nat) (p1 p2 p3 p4 p5 : Int32) (o : Nat) (f : Nat → Int64) {k : Nat} {r : Int32} {S' : DS} {TC TZ : Nat} (hkd : dK S d = 12) (hq : q_X11_thenable G.2.2 S d p1 p2 p3 p4 p5 = some ((k, r), S', TC, TZ)) (hk : k = 0 ∨ k = 1 ∨ k = 2) : Met l yL_thenable (wL yL_thenable cL_thenable 8 [(0, 16, 19, 19), (0, 16, 23, 13)]) (rD 8 234 TC TZ) (va_Pc [.ref d, .int p1, .int p2, .int p3, .int p4, .int p5, .ref o] (lPre D A G S o cJ f)) (lQ D A G o cJ (if k = 0 then 0 else if k = 1 then 1 else 2) S' (if k = 0 then r.toInt64 else f 0)) TC TZ (lA A o) := by
  refine l_head hst (by decide) (Nat.le_of_ble_eq_true rfl) ?_
  intro p e s m args below meth c ls B htab hW ho hno hJ hl
  have hx := B.1
  have hb := B.2.1
  have hl : lv_has ls 8 [(0, .ref d), (1, .int p1), (2, .int p2), (3, .int p3), (4, .int p4), (5, .int p5), (6, .ref o)] := hl
  have hT : 0 + (TC + 0) = (rD 8 234 TC TZ).cells ∧ 0 + (TZ + 0) = (rD 8 234 TC TZ).slots := ⟨Nat.zero_add _, Nat.zero_add _⟩
  have hT2 : 0 + TC = (rD 8 234 TC TZ).cells ∧ 0 + TZ = (rD 8 234 TC TZ).slots := ⟨Nat.zero_add _, Nat.zero_add _⟩
  refine lv_aload hx hb dL_thenable_0 (lv_at hl 6 rfl) ?_
  refine lv_iconst (v := 0) hx hb dL_thenable_2 (by decide) ?_
  refine lv_aload_n hx hb dL_thenable_3 rfl (lv_at hl 0 rfl) ?_
  refine lv_iload_n hx hb dL_thenable_4 rfl (lv_at hl 1 rfl) ?_
  refine lv_iload_n hx hb dL_thenable_5 rfl (lv_at hl 2 rfl) ?_
  refine lv_iload_n hx hb dL_thenable_6 rfl (lv_at hl 3 rfl) ?_
  refine lv_iload hx hb dL_thenable_7 (lv_at hl 4 rfl) ?_
  refine lv_iload hx hb dL_thenable_9 (lv_at hl 5 rfl) ?_
  have hrun := x_runV (pc := 11) (ls := ls) (below := below) (e := e) (st := [.int p5, .int p4, .int p3, .int p2, .int p1, .ref d, .int 0, .ref o]) (As := [.int p1, .int p2, .int p3, .int p4, .int p5]) (rest := [.int 0, .ref o]) B hW hl.1 (d_recv B hW (ci := 11) rfl (dF_11 hkd) (by rw [hkd]; decide)) (c_X11_thenable hst S d p1 p2 p3 p4 p5 hq) (g_V u_403 u_404 u_405 u_1 u_406) y1_X11_thenable rfl ⟨Nat.le_of_ble_eq_true rfl, Nat.le_of_ble_eq_true rfl⟩ hT rfl (Nat.le_of_ble_eq_true rfl) dL_thenable_11
  refine vx_calli hrun (va_S.rf : va_S (lA A o) s.heap s.heap []) (fun _ _ h => Or.inl h) (fun _ h => Or.inl h) (fun _ _ h => Or.inl h) (fun E ce q9 u t H1 locs1 ht hvm hp hB hz hk1 hS hc hv hcl => ?_) (fun r1 u t H1 locs1 ht hvm hw hB hz hk1 hS => ?_)
  · obtain ⟨hk0, rfl⟩ := hp
    obtain ⟨rfl, hB⟩ := hB
    rw [ht] at hB
    have hoo := (hk1 o (Array.getElem?_eq_some_iff.mp ho).1 hno.1).trans ho
    rcases hk with rfl | rfl | rfl
    · exact absurd rfl hk0
    · refine l_catch1 (x := ⟨0, 16, 19, 19⟩) B htab (by decide) (by decide) u_318 un_7 hc hv hcl ?_
      refine lv_astore (lv' := [(7, .ref q9), (0, .ref d), (1, .int p1), (2, .int p2), (3, .int p3), (4, .int p4), (5, .int p5), (6, .ref o)]) hx hb dL_thenable_19 hl (by decide) rfl (fun ls hl => ?_)
      refine lv_iconst (v := 1) hx hb dL_thenable_21 (by decide) ?_
      exact l_ret B ⟨_, hB⟩ hoo rfl hS hT2 dL_thenable_22
    · refine l_catch2 (x0 := ⟨0, 16, 19, 19⟩) (x := ⟨0, 16, 23, 13⟩) B htab (by decide) u_318 uc_4 (by decide) (by decide) u_105 un_3 hc hv hcl ?_
      refine lv_astore (lv' := [(7, .ref q9), (0, .ref d), (1, .int p1), (2, .int p2), (3, .int p3), (4, .int p4), (5, .int p5), (6, .ref o)]) hx hb dL_thenable_23 hl (by decide) rfl (fun ls hl => ?_)
      refine lv_iconst (v := 2) hx hb dL_thenable_25 (by decide) ?_
      exact l_ret B ⟨_, hB⟩ hoo rfl hS hT2 dL_thenable_26
  · obtain ⟨rfl, rfl, rfl⟩ := hw
    have hB : dH D A G u t.heap := hB
    rw [ht] at hB
    have hoo := (hk1 o (Array.getElem?_eq_some_iff.mp ho).1 hno.1).trans ho
    refine lv_i2l (v := r1.toInt64) hx hb dL_thenable_14 rfl ?_
    refine l_store (F := lA A o) (H0 := s.heap) B hJ hoo dL_thenable_15 hS (Or.inr rfl) (fun H2 locs2 ho2 hz2 hk2 hS2 => ?_)
    refine lv_goto (tgt := 27) hx hb dL_thenable_16 (by decide) ?_
    refine lv_iconst (v := 0) hx hb dL_thenable_27 (by decide) ?_
    exact l_ret B ⟨_, dH_any hB hz2 (fun q hq hK _ => hk2 q hq (dH_ne hB hno hK))⟩ ho2 rfl hS2 hT2 dL_thenable_28
set_option maxHeartbeats 4000000 in
set_option maxRecDepth 100000 in
theorem h_L_settle {l : Launch} (hst : l.stackTraces = false) {D : va_G} {A : Nat → Prop} {G : DG} {cJ : ClassId} (n : Nat) (S : DS) (d : Nat) (p1 p2 p3 : Int32) (o : Nat) (f : Nat → Int64) {k : Nat} {r : Int32} {S' : DS} {TC TZ : Nat} (hkd : dK S d = 12) (hq : q_X11_settle G.2.2 n S d p1 p2 p3 = some ((k, r), S', TC, TZ)) (hk : k = 0 ∨ k = 1 ∨ k = 2) : Met l yL_settle (wL yL_settle cL_settle 6 [(0, 19, 22, 19), (0, 19, 26, 13)]) (rD 11 304 TC TZ) (va_Pc [.ref d, .int p1, .int p2, .int p3, .ref o] (lPre D A G S o cJ f)) (lQ D A G o cJ (if k = 0 then 0 else if k = 1 then 1 else 2) S' (if k = 0 then (if r = 0 then 0 else 1) else f 0)) TC TZ (lA A o) := by
  refine l_head hst (by decide) (Nat.le_of_ble_eq_true rfl) ?_
  intro p e s m args below meth c ls B htab hW ho hno hJ hl
  have hx := B.1
  have hb := B.2.1
  have hl : lv_has ls 6 [(0, .ref d), (1, .int p1), (2, .int p2), (3, .int p3), (4, .ref o)] := hl
  have hT : 0 + (TC + 0) = (rD 11 304 TC TZ).cells ∧ 0 + (TZ + 0) = (rD 11 304 TC TZ).slots := ⟨Nat.zero_add _, Nat.zero_add _⟩
  have hT2 : 0 + TC = (rD 11 304 TC TZ).cells ∧ 0 + TZ = (rD 11 304 TC TZ).slots := ⟨Nat.zero_add _, Nat.zero_add _⟩
  refine lv_aload hx hb dL_settle_0 (lv_at hl 4 rfl) ?_
  refine lv_iconst (v := 0) hx hb dL_settle_2 (by decide) ?_
  refine lv_aload_n hx hb dL_settle_3 rfl (lv_at hl 0 rfl) ?_
  refine lv_iload_n hx hb dL_settle_4 rfl (lv_at hl 1 rfl) ?_
  refine lv_iload_n hx hb dL_settle_5 rfl (lv_at hl 2 rfl) ?_
  refine lv_iload_n hx hb dL_settle_6 rfl (lv_at hl 3 rfl) ?_
  have hrun := x_runV (pc := 7) (ls := ls) (below := below) (e := e) (st := [.int p3, .int p2, .int p1, .ref d, .int 0, .ref o]) (As := [.int p1, .int p2, .int p3]) (rest := [.int 0, .ref o]) B hW hl.1 (d_recv B hW (ci := 11) rfl (dF_11 hkd) (by rw [hkd]; decide)) (c_X11_settle hst n S d p1 p2 p3 hq) (g_V u_439 u_440 u_441 u_1 u_442) y1_X11_settle rfl ⟨Nat.le_of_ble_eq_true rfl, Nat.le_of_ble_eq_true rfl⟩ hT rfl (Nat.le_of_ble_eq_true rfl) dL_settle_7
  refine vx_calli hrun (va_S.rf : va_S (lA A o) s.heap s.heap []) (fun _ _ h => Or.inl h) (fun _ h => Or.inl h) (fun _ _ h => Or.inl h) (fun E ce q9 u t H1 locs1 ht hvm hp hB hz hk1 hS hc hv hcl => ?_) (fun r1 u t H1 locs1 ht hvm hw hB hz hk1 hS => ?_)
  · obtain ⟨hk0, rfl⟩ := hp
    obtain ⟨rfl, hB⟩ := hB
    rw [ht] at hB
    have hoo := (hk1 o (Array.getElem?_eq_some_iff.mp ho).1 hno.1).trans ho
    rcases hk with rfl | rfl | rfl
    · exact absurd rfl hk0
    · refine l_catch1 (x := ⟨0, 19, 22, 19⟩) B htab (by decide) (by decide) u_318 un_7 hc hv hcl ?_
      refine lv_astore (lv' := [(5, .ref q9), (0, .ref d), (1, .int p1), (2, .int p2), (3, .int p3), (4, .ref o)]) hx hb dL_settle_22 hl (by decide) rfl (fun ls hl => ?_)
      refine lv_iconst (v := 1) hx hb dL_settle_24 (by decide) ?_
      exact l_ret B ⟨_, hB⟩ hoo rfl hS hT2 dL_settle_25
    · refine l_catch2 (x0 := ⟨0, 19, 22, 19⟩) (x := ⟨0, 19, 26, 13⟩) B htab (by decide) u_318 uc_4 (by decide) (by decide) u_105 un_3 hc hv hcl ?_
      refine lv_astore (lv' := [(5, .ref q9), (0, .ref d), (1, .int p1), (2, .int p2), (3, .int p3), (4, .ref o)]) hx hb dL_settle_26 hl (by decide) rfl (fun ls hl => ?_)
      refine lv_iconst (v := 2) hx hb dL_settle_28 (by decide) ?_
      exact l_ret B ⟨_, hB⟩ hoo rfl hS hT2 dL_settle_29
  · obtain ⟨rfl, rfl, rfl⟩ := hw
    have hB : dH D A G u t.heap := hB
    rw [ht] at hB
    have hoo := (hk1 o (Array.getElem?_eq_some_iff.mp ho).1 hno.1).trans ho
    refine lv_if_eq (tgt := 17) hx hb dL_settle_10 (by decide) (fun hc => ?_) (fun hc => ?_)
    · refine lv_lconst (v := 0) hx hb dL_settle_17 (by decide) ?_
      refine l_store (F := lA A o) (H0 := s.heap) B hJ hoo dL_settle_18 hS (Or.inr rfl) (fun H2 locs2 ho2 hz2 hk2 hS2 => ?_)
      refine lv_goto (tgt := 30) hx hb dL_settle_19 (by decide) ?_
      refine lv_iconst (v := 0) hx hb dL_settle_30 (by decide) ?_
      exact l_ret B ⟨_, dH_any hB hz2 (fun q hq hK _ => hk2 q hq (dH_ne hB hno hK))⟩ ho2 (by simp [vp_updL, hc]) hS2 hT2 dL_settle_31
    · refine lv_lconst (v := 1) hx hb dL_settle_13 (by decide) ?_
      refine lv_goto (tgt := 18) hx hb dL_settle_14 (by decide) ?_
      refine l_store (F := lA A o) (H0 := s.heap) B hJ hoo dL_settle_18 hS (Or.inr rfl) (fun H2 locs2 ho2 hz2 hk2 hS2 => ?_)
      refine lv_goto (tgt := 30) hx hb dL_settle_19 (by decide) ?_
      refine lv_iconst (v := 0) hx hb dL_settle_30 (by decide) ?_
      exact l_ret B ⟨_, dH_any hB hz2 (fun q hq hK _ => hk2 q hq (dH_ne hB hno hK))⟩ ho2 (by simp [vp_updL, hc]) hS2 hT2 dL_settle_31
set_option maxHeartbeats 4000000 in
set_option maxRecDepth 100000 in
theorem h_L_later {l : Launch} (hst : l.stackTraces = false) {D : va_G} {A : Nat → Prop} {G : DG} {cJ : ClassId} (n : Nat) (S : DS) (d : Nat) (p1 p2 p3 : Int32) (o : Nat) (f : Nat → Int64) {k : Nat} {r : Int32} {S' : DS} {TC TZ : Nat} (hkd : dK S d = 12) (hq : q_X11_later G.2.2 n S d p1 p2 p3 = some ((k, r), S', TC, TZ)) (hk : k = 0 ∨ k = 1 ∨ k = 2) : Met l yL_later (wL yL_later cL_later 6 [(0, 12, 15, 19), (0, 12, 19, 13)]) (rD 11 304 TC TZ) (va_Pc [.ref d, .int p1, .int p2, .int p3, .ref o] (lPre D A G S o cJ f)) (lQ D A G o cJ (if k = 0 then 0 else if k = 1 then 1 else 2) S' (if k = 0 then r.toInt64 else f 0)) TC TZ (lA A o) := by
  refine l_head hst (by decide) (Nat.le_of_ble_eq_true rfl) ?_
  intro p e s m args below meth c ls B htab hW ho hno hJ hl
  have hx := B.1
  have hb := B.2.1
  have hl : lv_has ls 6 [(0, .ref d), (1, .int p1), (2, .int p2), (3, .int p3), (4, .ref o)] := hl
  have hT : 0 + (TC + 0) = (rD 11 304 TC TZ).cells ∧ 0 + (TZ + 0) = (rD 11 304 TC TZ).slots := ⟨Nat.zero_add _, Nat.zero_add _⟩
  have hT2 : 0 + TC = (rD 11 304 TC TZ).cells ∧ 0 + TZ = (rD 11 304 TC TZ).slots := ⟨Nat.zero_add _, Nat.zero_add _⟩
  refine lv_aload hx hb dL_later_0 (lv_at hl 4 rfl) ?_
  refine lv_iconst (v := 0) hx hb dL_later_2 (by decide) ?_
  refine lv_aload_n hx hb dL_later_3 rfl (lv_at hl 0 rfl) ?_
  refine lv_iload_n hx hb dL_later_4 rfl (lv_at hl 1 rfl) ?_
  refine lv_iload_n hx hb dL_later_5 rfl (lv_at hl 2 rfl) ?_
  refine lv_iload_n hx hb dL_later_6 rfl (lv_at hl 3 rfl) ?_
  have hrun := x_runV (pc := 7) (ls := ls) (below := below) (e := e) (st := [.int p3, .int p2, .int p1, .ref d, .int 0, .ref o]) (As := [.int p1, .int p2, .int p3]) (rest := [.int 0, .ref o]) B hW hl.1 (d_recv B hW (ci := 11) rfl (dF_11 hkd) (by rw [hkd]; decide)) (c_X11_later hst n S d p1 p2 p3 hq) (g_V u_527 u_528 u_529 u_1 u_530) y1_X11_later rfl ⟨Nat.le_of_ble_eq_true rfl, Nat.le_of_ble_eq_true rfl⟩ hT rfl (Nat.le_of_ble_eq_true rfl) dL_later_7
  refine vx_calli hrun (va_S.rf : va_S (lA A o) s.heap s.heap []) (fun _ _ h => Or.inl h) (fun _ h => Or.inl h) (fun _ _ h => Or.inl h) (fun E ce q9 u t H1 locs1 ht hvm hp hB hz hk1 hS hc hv hcl => ?_) (fun r1 u t H1 locs1 ht hvm hw hB hz hk1 hS => ?_)
  · obtain ⟨hk0, rfl⟩ := hp
    obtain ⟨rfl, hB⟩ := hB
    rw [ht] at hB
    have hoo := (hk1 o (Array.getElem?_eq_some_iff.mp ho).1 hno.1).trans ho
    rcases hk with rfl | rfl | rfl
    · exact absurd rfl hk0
    · refine l_catch1 (x := ⟨0, 12, 15, 19⟩) B htab (by decide) (by decide) u_318 un_7 hc hv hcl ?_
      refine lv_astore (lv' := [(5, .ref q9), (0, .ref d), (1, .int p1), (2, .int p2), (3, .int p3), (4, .ref o)]) hx hb dL_later_15 hl (by decide) rfl (fun ls hl => ?_)
      refine lv_iconst (v := 1) hx hb dL_later_17 (by decide) ?_
      exact l_ret B ⟨_, hB⟩ hoo rfl hS hT2 dL_later_18
    · refine l_catch2 (x0 := ⟨0, 12, 15, 19⟩) (x := ⟨0, 12, 19, 13⟩) B htab (by decide) u_318 uc_4 (by decide) (by decide) u_105 un_3 hc hv hcl ?_
      refine lv_astore (lv' := [(5, .ref q9), (0, .ref d), (1, .int p1), (2, .int p2), (3, .int p3), (4, .ref o)]) hx hb dL_later_19 hl (by decide) rfl (fun ls hl => ?_)
      refine lv_iconst (v := 2) hx hb dL_later_21 (by decide) ?_
      exact l_ret B ⟨_, hB⟩ hoo rfl hS hT2 dL_later_22
  · obtain ⟨rfl, rfl, rfl⟩ := hw
    have hB : dH D A G u t.heap := hB
    rw [ht] at hB
    have hoo := (hk1 o (Array.getElem?_eq_some_iff.mp ho).1 hno.1).trans ho
    refine lv_i2l (v := r1.toInt64) hx hb dL_later_10 rfl ?_
    refine l_store (F := lA A o) (H0 := s.heap) B hJ hoo dL_later_11 hS (Or.inr rfl) (fun H2 locs2 ho2 hz2 hk2 hS2 => ?_)
    refine lv_goto (tgt := 23) hx hb dL_later_12 (by decide) ?_
    refine lv_iconst (v := 0) hx hb dL_later_23 (by decide) ?_
    exact l_ret B ⟨_, dH_any hB hz2 (fun q hq hK _ => hk2 q hq (dH_ne hB hno hK))⟩ ho2 rfl hS2 hT2 dL_later_24
set_option maxHeartbeats 4000000 in
set_option maxRecDepth 100000 in
theorem h_L_then {l : Launch} (hst : l.stackTraces = false) {D : va_G} {A : Nat → Prop} {G : DG} {cJ : ClassId} (S : DS) (d : Nat) (p1 p2 p3 p4 : Int32) (o : Nat) (f : Nat → Int64) {k : Nat} {r : Int32} {S' : DS} {TC TZ : Nat} (hkd : dK S d = 12) (hq : q_X11_then G.2.2 S d p1 p2 p3 p4 = some ((k, r), S', TC, TZ)) (hk : k = 0 ∨ k = 1 ∨ k = 2) : Met l yL_then (wL yL_then cL_then 7 [(0, 14, 17, 19), (0, 14, 21, 13)]) (rD 10 280 TC TZ) (va_Pc [.ref d, .int p1, .int p2, .int p3, .int p4, .ref o] (lPre D A G S o cJ f)) (lQ D A G o cJ (if k = 0 then 0 else if k = 1 then 1 else 2) S' (if k = 0 then r.toInt64 else f 0)) TC TZ (lA A o) := by
  refine l_head hst (by decide) (Nat.le_of_ble_eq_true rfl) ?_
  intro p e s m args below meth c ls B htab hW ho hno hJ hl
  have hx := B.1
  have hb := B.2.1
  have hl : lv_has ls 7 [(0, .ref d), (1, .int p1), (2, .int p2), (3, .int p3), (4, .int p4), (5, .ref o)] := hl
  have hT : 0 + (TC + 0) = (rD 10 280 TC TZ).cells ∧ 0 + (TZ + 0) = (rD 10 280 TC TZ).slots := ⟨Nat.zero_add _, Nat.zero_add _⟩
  have hT2 : 0 + TC = (rD 10 280 TC TZ).cells ∧ 0 + TZ = (rD 10 280 TC TZ).slots := ⟨Nat.zero_add _, Nat.zero_add _⟩
  refine lv_aload hx hb dL_then_0 (lv_at hl 5 rfl) ?_
  refine lv_iconst (v := 0) hx hb dL_then_2 (by decide) ?_
  refine lv_aload_n hx hb dL_then_3 rfl (lv_at hl 0 rfl) ?_
  refine lv_iload_n hx hb dL_then_4 rfl (lv_at hl 1 rfl) ?_
  refine lv_iload_n hx hb dL_then_5 rfl (lv_at hl 2 rfl) ?_
  refine lv_iload_n hx hb dL_then_6 rfl (lv_at hl 3 rfl) ?_
  refine lv_iload hx hb dL_then_7 (lv_at hl 4 rfl) ?_
  have hrun := x_runV (pc := 9) (ls := ls) (below := below) (e := e) (st := [.int p4, .int p3, .int p2, .int p1, .ref d, .int 0, .ref o]) (As := [.int p1, .int p2, .int p3, .int p4]) (rest := [.int 0, .ref o]) B hW hl.1 (d_recv B hW (ci := 11) rfl (dF_11 hkd) (by rw [hkd]; decide)) (c_X11_then hst S d p1 p2 p3 p4 hq) (g_V u_539 u_540 u_541 u_1 u_542) y1_X11_then rfl ⟨Nat.le_of_ble_eq_true rfl, Nat.le_of_ble_eq_true rfl⟩ hT rfl (Nat.le_of_ble_eq_true rfl) dL_then_9
  refine vx_calli hrun (va_S.rf : va_S (lA A o) s.heap s.heap []) (fun _ _ h => Or.inl h) (fun _ h => Or.inl h) (fun _ _ h => Or.inl h) (fun E ce q9 u t H1 locs1 ht hvm hp hB hz hk1 hS hc hv hcl => ?_) (fun r1 u t H1 locs1 ht hvm hw hB hz hk1 hS => ?_)
  · obtain ⟨hk0, rfl⟩ := hp
    obtain ⟨rfl, hB⟩ := hB
    rw [ht] at hB
    have hoo := (hk1 o (Array.getElem?_eq_some_iff.mp ho).1 hno.1).trans ho
    rcases hk with rfl | rfl | rfl
    · exact absurd rfl hk0
    · refine l_catch1 (x := ⟨0, 14, 17, 19⟩) B htab (by decide) (by decide) u_318 un_7 hc hv hcl ?_
      refine lv_astore (lv' := [(6, .ref q9), (0, .ref d), (1, .int p1), (2, .int p2), (3, .int p3), (4, .int p4), (5, .ref o)]) hx hb dL_then_17 hl (by decide) rfl (fun ls hl => ?_)
      refine lv_iconst (v := 1) hx hb dL_then_19 (by decide) ?_
      exact l_ret B ⟨_, hB⟩ hoo rfl hS hT2 dL_then_20
    · refine l_catch2 (x0 := ⟨0, 14, 17, 19⟩) (x := ⟨0, 14, 21, 13⟩) B htab (by decide) u_318 uc_4 (by decide) (by decide) u_105 un_3 hc hv hcl ?_
      refine lv_astore (lv' := [(6, .ref q9), (0, .ref d), (1, .int p1), (2, .int p2), (3, .int p3), (4, .int p4), (5, .ref o)]) hx hb dL_then_21 hl (by decide) rfl (fun ls hl => ?_)
      refine lv_iconst (v := 2) hx hb dL_then_23 (by decide) ?_
      exact l_ret B ⟨_, hB⟩ hoo rfl hS hT2 dL_then_24
  · obtain ⟨rfl, rfl, rfl⟩ := hw
    have hB : dH D A G u t.heap := hB
    rw [ht] at hB
    have hoo := (hk1 o (Array.getElem?_eq_some_iff.mp ho).1 hno.1).trans ho
    refine lv_i2l (v := r1.toInt64) hx hb dL_then_12 rfl ?_
    refine l_store (F := lA A o) (H0 := s.heap) B hJ hoo dL_then_13 hS (Or.inr rfl) (fun H2 locs2 ho2 hz2 hk2 hS2 => ?_)
    refine lv_goto (tgt := 25) hx hb dL_then_14 (by decide) ?_
    refine lv_iconst (v := 0) hx hb dL_then_25 (by decide) ?_
    exact l_ret B ⟨_, dH_any hB hz2 (fun q hq hK _ => hk2 q hq (dH_ne hB hno hK))⟩ ho2 rfl hS2 hT2 dL_then_26
set_option maxHeartbeats 4000000 in
set_option maxRecDepth 100000 in
theorem h_L_lastly {l : Launch} (hst : l.stackTraces = false) {D : va_G} {A : Nat → Prop} {G : DG} {cJ : ClassId} (S : DS) (d : Nat) (p1 p2 : Int32) (o : Nat) (f : Nat → Int64) {k : Nat} {r : Int32} {S' : DS} {TC TZ : Nat} (hkd : dK S d = 12) (hq : q_X11_lastly G.2.2 S d p1 p2 = some ((k, r), S', TC, TZ)) (hk : k = 0 ∨ k = 1 ∨ k = 2) : Met l yL_lastly (wL yL_lastly cL_lastly 5 [(0, 10, 13, 19), (0, 10, 17, 13)]) (rD 10 277 TC TZ) (va_Pc [.ref d, .int p1, .int p2, .ref o] (lPre D A G S o cJ f)) (lQ D A G o cJ (if k = 0 then 0 else if k = 1 then 1 else 2) S' (if k = 0 then r.toInt64 else f 0)) TC TZ (lA A o) := by
  refine l_head hst (by decide) (Nat.le_of_ble_eq_true rfl) ?_
  intro p e s m args below meth c ls B htab hW ho hno hJ hl
  have hx := B.1
  have hb := B.2.1
  have hl : lv_has ls 5 [(0, .ref d), (1, .int p1), (2, .int p2), (3, .ref o)] := hl
  have hT : 0 + (TC + 0) = (rD 10 277 TC TZ).cells ∧ 0 + (TZ + 0) = (rD 10 277 TC TZ).slots := ⟨Nat.zero_add _, Nat.zero_add _⟩
  have hT2 : 0 + TC = (rD 10 277 TC TZ).cells ∧ 0 + TZ = (rD 10 277 TC TZ).slots := ⟨Nat.zero_add _, Nat.zero_add _⟩
  refine lv_aload_n hx hb dL_lastly_0 rfl (lv_at hl 3 rfl) ?_
  refine lv_iconst (v := 0) hx hb dL_lastly_1 (by decide) ?_
  refine lv_aload_n hx hb dL_lastly_2 rfl (lv_at hl 0 rfl) ?_
  refine lv_iload_n hx hb dL_lastly_3 rfl (lv_at hl 1 rfl) ?_
  refine lv_iload_n hx hb dL_lastly_4 rfl (lv_at hl 2 rfl) ?_
  have hrun := x_runV (pc := 5) (ls := ls) (below := below) (e := e) (st := [.int p2, .int p1, .ref d, .int 0, .ref o]) (As := [.int p1, .int p2]) (rest := [.int 0, .ref o]) B hW hl.1 (d_recv B hW (ci := 11) rfl (dF_11 hkd) (by rw [hkd]; decide)) (c_X11_lastly hst S d p1 p2 hq) (g_V u_561 u_562 u_563 u_1 u_564) y1_X11_lastly rfl ⟨Nat.le_of_ble_eq_true rfl, Nat.le_of_ble_eq_true rfl⟩ hT rfl (Nat.le_of_ble_eq_true rfl) dL_lastly_5
  refine vx_calli hrun (va_S.rf : va_S (lA A o) s.heap s.heap []) (fun _ _ h => Or.inl h) (fun _ h => Or.inl h) (fun _ _ h => Or.inl h) (fun E ce q9 u t H1 locs1 ht hvm hp hB hz hk1 hS hc hv hcl => ?_) (fun r1 u t H1 locs1 ht hvm hw hB hz hk1 hS => ?_)
  · obtain ⟨hk0, rfl⟩ := hp
    obtain ⟨rfl, hB⟩ := hB
    rw [ht] at hB
    have hoo := (hk1 o (Array.getElem?_eq_some_iff.mp ho).1 hno.1).trans ho
    rcases hk with rfl | rfl | rfl
    · exact absurd rfl hk0
    · refine l_catch1 (x := ⟨0, 10, 13, 19⟩) B htab (by decide) (by decide) u_318 un_7 hc hv hcl ?_
      refine lv_astore (lv' := [(4, .ref q9), (0, .ref d), (1, .int p1), (2, .int p2), (3, .ref o)]) hx hb dL_lastly_13 hl (by decide) rfl (fun ls hl => ?_)
      refine lv_iconst (v := 1) hx hb dL_lastly_15 (by decide) ?_
      exact l_ret B ⟨_, hB⟩ hoo rfl hS hT2 dL_lastly_16
    · refine l_catch2 (x0 := ⟨0, 10, 13, 19⟩) (x := ⟨0, 10, 17, 13⟩) B htab (by decide) u_318 uc_4 (by decide) (by decide) u_105 un_3 hc hv hcl ?_
      refine lv_astore (lv' := [(4, .ref q9), (0, .ref d), (1, .int p1), (2, .int p2), (3, .ref o)]) hx hb dL_lastly_17 hl (by decide) rfl (fun ls hl => ?_)
      refine lv_iconst (v := 2) hx hb dL_lastly_19 (by decide) ?_
      exact l_ret B ⟨_, hB⟩ hoo rfl hS hT2 dL_lastly_20
  · obtain ⟨rfl, rfl, rfl⟩ := hw
    have hB : dH D A G u t.heap := hB
    rw [ht] at hB
    have hoo := (hk1 o (Array.getElem?_eq_some_iff.mp ho).1 hno.1).trans ho
    refine lv_i2l (v := r1.toInt64) hx hb dL_lastly_8 rfl ?_
    refine l_store (F := lA A o) (H0 := s.heap) B hJ hoo dL_lastly_9 hS (Or.inr rfl) (fun H2 locs2 ho2 hz2 hk2 hS2 => ?_)
    refine lv_goto (tgt := 21) hx hb dL_lastly_10 (by decide) ?_
    refine lv_iconst (v := 0) hx hb dL_lastly_21 (by decide) ?_
    exact l_ret B ⟨_, dH_any hB hz2 (fun q hq hK _ => hk2 q hq (dH_ne hB hno hK))⟩ ho2 rfl hS2 hT2 dL_lastly_22
set_option maxHeartbeats 4000000 in
set_option maxRecDepth 100000 in
theorem h_L_wrap {l : Launch} (hst : l.stackTraces = false) {D : va_G} {A : Nat → Prop} {G : DG} {cJ : ClassId} (n : Nat) (S : DS) (d : Nat) (p1 : Int32) (o : Nat) (f : Nat → Int64) {k : Nat} {r : Int32} {S' : DS} {TC TZ : Nat} (hkd : dK S d = 12) (hq : q_X11_wrap G.2.2 n S d p1 = some ((k, r), S', TC, TZ)) (hk : k = 0 ∨ k = 1 ∨ k = 2) : Met l yL_wrap (wL yL_wrap cL_wrap 4 [(0, 9, 12, 19), (0, 9, 15, 13)]) (rD 11 300 TC TZ) (va_Pc [.ref d, .int p1, .ref o] (lPre D A G S o cJ f)) (lQ D A G o cJ (if k = 0 then 0 else if k = 1 then 1 else 2) S' (if k = 0 then r.toInt64 else f 0)) TC TZ (lA A o) := by
  refine l_head hst (by decide) (Nat.le_of_ble_eq_true rfl) ?_
  intro p e s m args below meth c ls B htab hW ho hno hJ hl
  have hx := B.1
  have hb := B.2.1
  have hl : lv_has ls 4 [(0, .ref d), (1, .int p1), (2, .ref o)] := hl
  have hT : 0 + (TC + 0) = (rD 11 300 TC TZ).cells ∧ 0 + (TZ + 0) = (rD 11 300 TC TZ).slots := ⟨Nat.zero_add _, Nat.zero_add _⟩
  have hT2 : 0 + TC = (rD 11 300 TC TZ).cells ∧ 0 + TZ = (rD 11 300 TC TZ).slots := ⟨Nat.zero_add _, Nat.zero_add _⟩
  refine lv_aload_n hx hb dL_wrap_0 rfl (lv_at hl 2 rfl) ?_
  refine lv_iconst (v := 0) hx hb dL_wrap_1 (by decide) ?_
  refine lv_aload_n hx hb dL_wrap_2 rfl (lv_at hl 0 rfl) ?_
  refine lv_iload_n hx hb dL_wrap_3 rfl (lv_at hl 1 rfl) ?_
  have hrun := x_runV (pc := 4) (ls := ls) (below := below) (e := e) (st := [.int p1, .ref d, .int 0, .ref o]) (As := [.int p1]) (rest := [.int 0, .ref o]) B hW hl.1 (d_recv B hW (ci := 11) rfl (dF_11 hkd) (by rw [hkd]; decide)) (c_X11_wrap hst n S d p1 hq) (g_V u_581 u_582 u_583 u_1 u_584) y1_X11_wrap rfl ⟨Nat.le_of_ble_eq_true rfl, Nat.le_of_ble_eq_true rfl⟩ hT rfl (Nat.le_of_ble_eq_true rfl) dL_wrap_4
  refine vx_calli hrun (va_S.rf : va_S (lA A o) s.heap s.heap []) (fun _ _ h => Or.inl h) (fun _ h => Or.inl h) (fun _ _ h => Or.inl h) (fun E ce q9 u t H1 locs1 ht hvm hp hB hz hk1 hS hc hv hcl => ?_) (fun r1 u t H1 locs1 ht hvm hw hB hz hk1 hS => ?_)
  · obtain ⟨hk0, rfl⟩ := hp
    obtain ⟨rfl, hB⟩ := hB
    rw [ht] at hB
    have hoo := (hk1 o (Array.getElem?_eq_some_iff.mp ho).1 hno.1).trans ho
    rcases hk with rfl | rfl | rfl
    · exact absurd rfl hk0
    · refine l_catch1 (x := ⟨0, 9, 12, 19⟩) B htab (by decide) (by decide) u_318 un_7 hc hv hcl ?_
      refine lv_astore_n (lv' := [(3, .ref q9), (0, .ref d), (1, .int p1), (2, .ref o)]) hx hb dL_wrap_12 rfl hl (by decide) rfl (fun ls hl => ?_)
      refine lv_iconst (v := 1) hx hb dL_wrap_13 (by decide) ?_
      exact l_ret B ⟨_, hB⟩ hoo rfl hS hT2 dL_wrap_14
    · refine l_catch2 (x0 := ⟨0, 9, 12, 19⟩) (x := ⟨0, 9, 15, 13⟩) B htab (by decide) u_318 uc_4 (by decide) (by decide) u_105 un_3 hc hv hcl ?_
      refine lv_astore_n (lv' := [(3, .ref q9), (0, .ref d), (1, .int p1), (2, .ref o)]) hx hb dL_wrap_15 rfl hl (by decide) rfl (fun ls hl => ?_)
      refine lv_iconst (v := 2) hx hb dL_wrap_16 (by decide) ?_
      exact l_ret B ⟨_, hB⟩ hoo rfl hS hT2 dL_wrap_17
  · obtain ⟨rfl, rfl, rfl⟩ := hw
    have hB : dH D A G u t.heap := hB
    rw [ht] at hB
    have hoo := (hk1 o (Array.getElem?_eq_some_iff.mp ho).1 hno.1).trans ho
    refine lv_i2l (v := r1.toInt64) hx hb dL_wrap_7 rfl ?_
    refine l_store (F := lA A o) (H0 := s.heap) B hJ hoo dL_wrap_8 hS (Or.inr rfl) (fun H2 locs2 ho2 hz2 hk2 hS2 => ?_)
    refine lv_goto (tgt := 18) hx hb dL_wrap_9 (by decide) ?_
    refine lv_iconst (v := 0) hx hb dL_wrap_18 (by decide) ?_
    exact l_ret B ⟨_, dH_any hB hz2 (fun q hq hK _ => hk2 q hq (dH_ne hB hno hK))⟩ ho2 rfl hS2 hT2 dL_wrap_19
set_option maxHeartbeats 4000000 in
set_option maxRecDepth 100000 in
theorem h_L_broken {l : Launch} (hst : l.stackTraces = false) {D : va_G} {A : Nat → Prop} {G : DG} {cJ : ClassId} (n : Nat) (S : DS) (d : Nat) (p1 : Int32) (o : Nat) (f : Nat → Int64) {k : Nat} {r : Int32} {S' : DS} {TC TZ : Nat} (hkd : dK S d = 12) (hq : q_X11_broken G.2.2 n S d p1 = some ((k, r), S', TC, TZ)) (hk : k = 0 ∨ k = 1 ∨ k = 2) : Met l yL_broken (wL yL_broken cL_broken 4 [(0, 9, 12, 19), (0, 9, 15, 13)]) (rD 9 251 TC TZ) (va_Pc [.ref d, .int p1, .ref o] (lPre D A G S o cJ f)) (lQ D A G o cJ (if k = 0 then 0 else if k = 1 then 1 else 2) S' (if k = 0 then r.toInt64 else f 0)) TC TZ (lA A o) := by
  refine l_head hst (by decide) (Nat.le_of_ble_eq_true rfl) ?_
  intro p e s m args below meth c ls B htab hW ho hno hJ hl
  have hx := B.1
  have hb := B.2.1
  have hl : lv_has ls 4 [(0, .ref d), (1, .int p1), (2, .ref o)] := hl
  have hT : 0 + (TC + 0) = (rD 9 251 TC TZ).cells ∧ 0 + (TZ + 0) = (rD 9 251 TC TZ).slots := ⟨Nat.zero_add _, Nat.zero_add _⟩
  have hT2 : 0 + TC = (rD 9 251 TC TZ).cells ∧ 0 + TZ = (rD 9 251 TC TZ).slots := ⟨Nat.zero_add _, Nat.zero_add _⟩
  refine lv_aload_n hx hb dL_broken_0 rfl (lv_at hl 2 rfl) ?_
  refine lv_iconst (v := 0) hx hb dL_broken_1 (by decide) ?_
  refine lv_aload_n hx hb dL_broken_2 rfl (lv_at hl 0 rfl) ?_
  refine lv_iload_n hx hb dL_broken_3 rfl (lv_at hl 1 rfl) ?_
  have hrun := x_runV (pc := 4) (ls := ls) (below := below) (e := e) (st := [.int p1, .ref d, .int 0, .ref o]) (As := [.int p1]) (rest := [.int 0, .ref o]) B hW hl.1 (d_recv B hW (ci := 11) rfl (dF_11 hkd) (by rw [hkd]; decide)) (c_X11_broken hst n S d p1 hq) (g_V u_592 u_593 u_594 u_1 u_595) y1_X11_broken rfl ⟨Nat.le_of_ble_eq_true rfl, Nat.le_of_ble_eq_true rfl⟩ hT rfl (Nat.le_of_ble_eq_true rfl) dL_broken_4
  refine vx_calli hrun (va_S.rf : va_S (lA A o) s.heap s.heap []) (fun _ _ h => Or.inl h) (fun _ h => Or.inl h) (fun _ _ h => Or.inl h) (fun E ce q9 u t H1 locs1 ht hvm hp hB hz hk1 hS hc hv hcl => ?_) (fun r1 u t H1 locs1 ht hvm hw hB hz hk1 hS => ?_)
  · obtain ⟨hk0, rfl⟩ := hp
    obtain ⟨rfl, hB⟩ := hB
    rw [ht] at hB
    have hoo := (hk1 o (Array.getElem?_eq_some_iff.mp ho).1 hno.1).trans ho
    rcases hk with rfl | rfl | rfl
    · exact absurd rfl hk0
    · refine l_catch1 (x := ⟨0, 9, 12, 19⟩) B htab (by decide) (by decide) u_318 un_7 hc hv hcl ?_
      refine lv_astore_n (lv' := [(3, .ref q9), (0, .ref d), (1, .int p1), (2, .ref o)]) hx hb dL_broken_12 rfl hl (by decide) rfl (fun ls hl => ?_)
      refine lv_iconst (v := 1) hx hb dL_broken_13 (by decide) ?_
      exact l_ret B ⟨_, hB⟩ hoo rfl hS hT2 dL_broken_14
    · refine l_catch2 (x0 := ⟨0, 9, 12, 19⟩) (x := ⟨0, 9, 15, 13⟩) B htab (by decide) u_318 uc_4 (by decide) (by decide) u_105 un_3 hc hv hcl ?_
      refine lv_astore_n (lv' := [(3, .ref q9), (0, .ref d), (1, .int p1), (2, .ref o)]) hx hb dL_broken_15 rfl hl (by decide) rfl (fun ls hl => ?_)
      refine lv_iconst (v := 2) hx hb dL_broken_16 (by decide) ?_
      exact l_ret B ⟨_, hB⟩ hoo rfl hS hT2 dL_broken_17
  · obtain ⟨rfl, rfl, rfl⟩ := hw
    have hB : dH D A G u t.heap := hB
    rw [ht] at hB
    have hoo := (hk1 o (Array.getElem?_eq_some_iff.mp ho).1 hno.1).trans ho
    refine lv_i2l (v := r1.toInt64) hx hb dL_broken_7 rfl ?_
    refine l_store (F := lA A o) (H0 := s.heap) B hJ hoo dL_broken_8 hS (Or.inr rfl) (fun H2 locs2 ho2 hz2 hk2 hS2 => ?_)
    refine lv_goto (tgt := 18) hx hb dL_broken_9 (by decide) ?_
    refine lv_iconst (v := 0) hx hb dL_broken_18 (by decide) ?_
    exact l_ret B ⟨_, dH_any hB hz2 (fun q hq hK _ => hk2 q hq (dH_ne hB hno hK))⟩ ho2 rfl hS2 hT2 dL_broken_19
set_option maxHeartbeats 4000000 in
set_option maxRecDepth 100000 in
theorem h_L_item {l : Launch} (hst : l.stackTraces = false) {D : va_G} {A : Nat → Prop} {G : DG} {cJ : ClassId} (S : DS) (d : Nat) (p1 : Int32) (o : Nat) (f : Nat → Int64) {k : Nat} {r : Int32} {S' : DS} {TC TZ : Nat} (hkd : dK S d = 12) (hq : q_X11_item G.2.2 S d p1 = some ((k, r), S', TC, TZ)) (hk : k = 0 ∨ k = 1 ∨ k = 2) : Met l yL_item (wL yL_item cL_item 4 [(0, 9, 12, 19), (0, 9, 15, 13)]) (rD 8 133 TC TZ) (va_Pc [.ref d, .int p1, .ref o] (lPre D A G S o cJ f)) (lQ D A G o cJ (if k = 0 then 0 else if k = 1 then 1 else 2) S' (if k = 0 then r.toInt64 else f 0)) TC TZ (lA A o) := by
  refine l_head hst (by decide) (Nat.le_of_ble_eq_true rfl) ?_
  intro p e s m args below meth c ls B htab hW ho hno hJ hl
  have hx := B.1
  have hb := B.2.1
  have hl : lv_has ls 4 [(0, .ref d), (1, .int p1), (2, .ref o)] := hl
  have hT : 0 + (TC + 0) = (rD 8 133 TC TZ).cells ∧ 0 + (TZ + 0) = (rD 8 133 TC TZ).slots := ⟨Nat.zero_add _, Nat.zero_add _⟩
  have hT2 : 0 + TC = (rD 8 133 TC TZ).cells ∧ 0 + TZ = (rD 8 133 TC TZ).slots := ⟨Nat.zero_add _, Nat.zero_add _⟩
  refine lv_aload_n hx hb dL_item_0 rfl (lv_at hl 2 rfl) ?_
  refine lv_iconst (v := 0) hx hb dL_item_1 (by decide) ?_
  refine lv_aload_n hx hb dL_item_2 rfl (lv_at hl 0 rfl) ?_
  refine lv_iload_n hx hb dL_item_3 rfl (lv_at hl 1 rfl) ?_
  have hrun := x_runV (pc := 4) (ls := ls) (below := below) (e := e) (st := [.int p1, .ref d, .int 0, .ref o]) (As := [.int p1]) (rest := [.int 0, .ref o]) B hW hl.1 (d_recv B hW (ci := 11) rfl (dF_11 hkd) (by rw [hkd]; decide)) (c_X11_item hst S d p1 hq) (g_V u_599 u_600 u_601 u_1 u_602) y1_X11_item rfl ⟨Nat.le_of_ble_eq_true rfl, Nat.le_of_ble_eq_true rfl⟩ hT rfl (Nat.le_of_ble_eq_true rfl) dL_item_4
  refine vx_calli hrun (va_S.rf : va_S (lA A o) s.heap s.heap []) (fun _ _ h => Or.inl h) (fun _ h => Or.inl h) (fun _ _ h => Or.inl h) (fun E ce q9 u t H1 locs1 ht hvm hp hB hz hk1 hS hc hv hcl => ?_) (fun r1 u t H1 locs1 ht hvm hw hB hz hk1 hS => ?_)
  · obtain ⟨hk0, rfl⟩ := hp
    obtain ⟨rfl, hB⟩ := hB
    rw [ht] at hB
    have hoo := (hk1 o (Array.getElem?_eq_some_iff.mp ho).1 hno.1).trans ho
    rcases hk with rfl | rfl | rfl
    · exact absurd rfl hk0
    · refine l_catch1 (x := ⟨0, 9, 12, 19⟩) B htab (by decide) (by decide) u_318 un_7 hc hv hcl ?_
      refine lv_astore_n (lv' := [(3, .ref q9), (0, .ref d), (1, .int p1), (2, .ref o)]) hx hb dL_item_12 rfl hl (by decide) rfl (fun ls hl => ?_)
      refine lv_iconst (v := 1) hx hb dL_item_13 (by decide) ?_
      exact l_ret B ⟨_, hB⟩ hoo rfl hS hT2 dL_item_14
    · refine l_catch2 (x0 := ⟨0, 9, 12, 19⟩) (x := ⟨0, 9, 15, 13⟩) B htab (by decide) u_318 uc_4 (by decide) (by decide) u_105 un_3 hc hv hcl ?_
      refine lv_astore_n (lv' := [(3, .ref q9), (0, .ref d), (1, .int p1), (2, .ref o)]) hx hb dL_item_15 rfl hl (by decide) rfl (fun ls hl => ?_)
      refine lv_iconst (v := 2) hx hb dL_item_16 (by decide) ?_
      exact l_ret B ⟨_, hB⟩ hoo rfl hS hT2 dL_item_17
  · obtain ⟨rfl, rfl, rfl⟩ := hw
    have hB : dH D A G u t.heap := hB
    rw [ht] at hB
    have hoo := (hk1 o (Array.getElem?_eq_some_iff.mp ho).1 hno.1).trans ho
    refine lv_i2l (v := r1.toInt64) hx hb dL_item_7 rfl ?_
    refine l_store (F := lA A o) (H0 := s.heap) B hJ hoo dL_item_8 hS (Or.inr rfl) (fun H2 locs2 ho2 hz2 hk2 hS2 => ?_)
    refine lv_goto (tgt := 18) hx hb dL_item_9 (by decide) ?_
    refine lv_iconst (v := 0) hx hb dL_item_18 (by decide) ?_
    exact l_ret B ⟨_, dH_any hB hz2 (fun q hq hK _ => hk2 q hq (dH_ne hB hno hK))⟩ ho2 rfl hS2 hT2 dL_item_19
set_option maxHeartbeats 4000000 in
set_option maxRecDepth 100000 in
theorem h_L_combine {l : Launch} (hst : l.stackTraces = false) {D : va_G} {A : Nat → Prop} {G : DG} {cJ : ClassId} (n : Nat) (S : DS) (d : Nat) (p1 : Int32) (o : Nat) (f : Nat → Int64) {k : Nat} {r : Int32} {S' : DS} {TC TZ : Nat} (hkd : dK S d = 12) (hq : q_X11_combine G.2.2 n S d p1 = some ((k, r), S', TC, TZ)) (hk : k = 0 ∨ k = 1 ∨ k = 2) : Met l yL_combine (wL yL_combine cL_combine 4 [(0, 9, 12, 19), (0, 9, 15, 13)]) (rD 11 305 TC TZ) (va_Pc [.ref d, .int p1, .ref o] (lPre D A G S o cJ f)) (lQ D A G o cJ (if k = 0 then 0 else if k = 1 then 1 else 2) S' (if k = 0 then r.toInt64 else f 0)) TC TZ (lA A o) := by
  refine l_head hst (by decide) (Nat.le_of_ble_eq_true rfl) ?_
  intro p e s m args below meth c ls B htab hW ho hno hJ hl
  have hx := B.1
  have hb := B.2.1
  have hl : lv_has ls 4 [(0, .ref d), (1, .int p1), (2, .ref o)] := hl
  have hT : 0 + (TC + 0) = (rD 11 305 TC TZ).cells ∧ 0 + (TZ + 0) = (rD 11 305 TC TZ).slots := ⟨Nat.zero_add _, Nat.zero_add _⟩
  have hT2 : 0 + TC = (rD 11 305 TC TZ).cells ∧ 0 + TZ = (rD 11 305 TC TZ).slots := ⟨Nat.zero_add _, Nat.zero_add _⟩
  refine lv_aload_n hx hb dL_combine_0 rfl (lv_at hl 2 rfl) ?_
  refine lv_iconst (v := 0) hx hb dL_combine_1 (by decide) ?_
  refine lv_aload_n hx hb dL_combine_2 rfl (lv_at hl 0 rfl) ?_
  refine lv_iload_n hx hb dL_combine_3 rfl (lv_at hl 1 rfl) ?_
  have hrun := x_runV (pc := 4) (ls := ls) (below := below) (e := e) (st := [.int p1, .ref d, .int 0, .ref o]) (As := [.int p1]) (rest := [.int 0, .ref o]) B hW hl.1 (d_recv B hW (ci := 11) rfl (dF_11 hkd) (by rw [hkd]; decide)) (c_X11_combine hst n S d p1 hq) (g_V u_607 u_608 u_609 u_1 u_610) y1_X11_combine rfl ⟨Nat.le_of_ble_eq_true rfl, Nat.le_of_ble_eq_true rfl⟩ hT rfl (Nat.le_of_ble_eq_true rfl) dL_combine_4
  refine vx_calli hrun (va_S.rf : va_S (lA A o) s.heap s.heap []) (fun _ _ h => Or.inl h) (fun _ h => Or.inl h) (fun _ _ h => Or.inl h) (fun E ce q9 u t H1 locs1 ht hvm hp hB hz hk1 hS hc hv hcl => ?_) (fun r1 u t H1 locs1 ht hvm hw hB hz hk1 hS => ?_)
  · obtain ⟨hk0, rfl⟩ := hp
    obtain ⟨rfl, hB⟩ := hB
    rw [ht] at hB
    have hoo := (hk1 o (Array.getElem?_eq_some_iff.mp ho).1 hno.1).trans ho
    rcases hk with rfl | rfl | rfl
    · exact absurd rfl hk0
    · refine l_catch1 (x := ⟨0, 9, 12, 19⟩) B htab (by decide) (by decide) u_318 un_7 hc hv hcl ?_
      refine lv_astore_n (lv' := [(3, .ref q9), (0, .ref d), (1, .int p1), (2, .ref o)]) hx hb dL_combine_12 rfl hl (by decide) rfl (fun ls hl => ?_)
      refine lv_iconst (v := 1) hx hb dL_combine_13 (by decide) ?_
      exact l_ret B ⟨_, hB⟩ hoo rfl hS hT2 dL_combine_14
    · refine l_catch2 (x0 := ⟨0, 9, 12, 19⟩) (x := ⟨0, 9, 15, 13⟩) B htab (by decide) u_318 uc_4 (by decide) (by decide) u_105 un_3 hc hv hcl ?_
      refine lv_astore_n (lv' := [(3, .ref q9), (0, .ref d), (1, .int p1), (2, .ref o)]) hx hb dL_combine_15 rfl hl (by decide) rfl (fun ls hl => ?_)
      refine lv_iconst (v := 2) hx hb dL_combine_16 (by decide) ?_
      exact l_ret B ⟨_, hB⟩ hoo rfl hS hT2 dL_combine_17
  · obtain ⟨rfl, rfl, rfl⟩ := hw
    have hB : dH D A G u t.heap := hB
    rw [ht] at hB
    have hoo := (hk1 o (Array.getElem?_eq_some_iff.mp ho).1 hno.1).trans ho
    refine lv_i2l (v := r1.toInt64) hx hb dL_combine_7 rfl ?_
    refine l_store (F := lA A o) (H0 := s.heap) B hJ hoo dL_combine_8 hS (Or.inr rfl) (fun H2 locs2 ho2 hz2 hk2 hS2 => ?_)
    refine lv_goto (tgt := 18) hx hb dL_combine_9 (by decide) ?_
    refine lv_iconst (v := 0) hx hb dL_combine_18 (by decide) ?_
    exact l_ret B ⟨_, dH_any hB hz2 (fun q hq hK _ => hk2 q hq (dH_ne hB hno hK))⟩ ho2 rfl hS2 hT2 dL_combine_19
set_option maxHeartbeats 4000000 in
set_option maxRecDepth 100000 in
theorem h_L_async {l : Launch} (hst : l.stackTraces = false) {D : va_G} {A : Nat → Prop} {G : DG} {cJ : ClassId} (n : Nat) (S : DS) (d : Nat) (p1 p2 : Int32) (o : Nat) (f : Nat → Int64) {k : Nat} {r : Int32} {S' : DS} {TC TZ : Nat} (hkd : dK S d = 12) (hq : q_X11_async G.2.2 n S d p1 p2 = some ((k, r), S', TC, TZ)) (hk : k = 0 ∨ k = 1 ∨ k = 2) : Met l yL_async (wL yL_async cL_async 5 [(0, 10, 13, 19), (0, 10, 17, 13)]) (rD 12 325 TC TZ) (va_Pc [.ref d, .int p1, .int p2, .ref o] (lPre D A G S o cJ f)) (lQ D A G o cJ (if k = 0 then 0 else if k = 1 then 1 else 2) S' (if k = 0 then r.toInt64 else f 0)) TC TZ (lA A o) := by
  refine l_head hst (by decide) (Nat.le_of_ble_eq_true rfl) ?_
  intro p e s m args below meth c ls B htab hW ho hno hJ hl
  have hx := B.1
  have hb := B.2.1
  have hl : lv_has ls 5 [(0, .ref d), (1, .int p1), (2, .int p2), (3, .ref o)] := hl
  have hT : 0 + (TC + 0) = (rD 12 325 TC TZ).cells ∧ 0 + (TZ + 0) = (rD 12 325 TC TZ).slots := ⟨Nat.zero_add _, Nat.zero_add _⟩
  have hT2 : 0 + TC = (rD 12 325 TC TZ).cells ∧ 0 + TZ = (rD 12 325 TC TZ).slots := ⟨Nat.zero_add _, Nat.zero_add _⟩
  refine lv_aload_n hx hb dL_async_0 rfl (lv_at hl 3 rfl) ?_
  refine lv_iconst (v := 0) hx hb dL_async_1 (by decide) ?_
  refine lv_aload_n hx hb dL_async_2 rfl (lv_at hl 0 rfl) ?_
  refine lv_iload_n hx hb dL_async_3 rfl (lv_at hl 1 rfl) ?_
  refine lv_iload_n hx hb dL_async_4 rfl (lv_at hl 2 rfl) ?_
  have hrun := x_runV (pc := 5) (ls := ls) (below := below) (e := e) (st := [.int p2, .int p1, .ref d, .int 0, .ref o]) (As := [.int p1, .int p2]) (rest := [.int 0, .ref o]) B hW hl.1 (d_recv B hW (ci := 11) rfl (dF_11 hkd) (by rw [hkd]; decide)) (c_X11_async hst n S d p1 p2 hq) (g_V u_689 u_690 u_691 u_1 u_692) y1_X11_async rfl ⟨Nat.le_of_ble_eq_true rfl, Nat.le_of_ble_eq_true rfl⟩ hT rfl (Nat.le_of_ble_eq_true rfl) dL_async_5
  refine vx_calli hrun (va_S.rf : va_S (lA A o) s.heap s.heap []) (fun _ _ h => Or.inl h) (fun _ h => Or.inl h) (fun _ _ h => Or.inl h) (fun E ce q9 u t H1 locs1 ht hvm hp hB hz hk1 hS hc hv hcl => ?_) (fun r1 u t H1 locs1 ht hvm hw hB hz hk1 hS => ?_)
  · obtain ⟨hk0, rfl⟩ := hp
    obtain ⟨rfl, hB⟩ := hB
    rw [ht] at hB
    have hoo := (hk1 o (Array.getElem?_eq_some_iff.mp ho).1 hno.1).trans ho
    rcases hk with rfl | rfl | rfl
    · exact absurd rfl hk0
    · refine l_catch1 (x := ⟨0, 10, 13, 19⟩) B htab (by decide) (by decide) u_318 un_7 hc hv hcl ?_
      refine lv_astore (lv' := [(4, .ref q9), (0, .ref d), (1, .int p1), (2, .int p2), (3, .ref o)]) hx hb dL_async_13 hl (by decide) rfl (fun ls hl => ?_)
      refine lv_iconst (v := 1) hx hb dL_async_15 (by decide) ?_
      exact l_ret B ⟨_, hB⟩ hoo rfl hS hT2 dL_async_16
    · refine l_catch2 (x0 := ⟨0, 10, 13, 19⟩) (x := ⟨0, 10, 17, 13⟩) B htab (by decide) u_318 uc_4 (by decide) (by decide) u_105 un_3 hc hv hcl ?_
      refine lv_astore (lv' := [(4, .ref q9), (0, .ref d), (1, .int p1), (2, .int p2), (3, .ref o)]) hx hb dL_async_17 hl (by decide) rfl (fun ls hl => ?_)
      refine lv_iconst (v := 2) hx hb dL_async_19 (by decide) ?_
      exact l_ret B ⟨_, hB⟩ hoo rfl hS hT2 dL_async_20
  · obtain ⟨rfl, rfl, rfl⟩ := hw
    have hB : dH D A G u t.heap := hB
    rw [ht] at hB
    have hoo := (hk1 o (Array.getElem?_eq_some_iff.mp ho).1 hno.1).trans ho
    refine lv_i2l (v := r1.toInt64) hx hb dL_async_8 rfl ?_
    refine l_store (F := lA A o) (H0 := s.heap) B hJ hoo dL_async_9 hS (Or.inr rfl) (fun H2 locs2 ho2 hz2 hk2 hS2 => ?_)
    refine lv_goto (tgt := 21) hx hb dL_async_10 (by decide) ?_
    refine lv_iconst (v := 0) hx hb dL_async_21 (by decide) ?_
    exact l_ret B ⟨_, dH_any hB hz2 (fun q hq hK _ => hk2 q hq (dH_ne hB hno hK))⟩ ho2 rfl hS2 hT2 dL_async_22
set_option maxHeartbeats 4000000 in
set_option maxRecDepth 100000 in
theorem h_L_jobs {l : Launch} (hst : l.stackTraces = false) {D : va_G} {A : Nat → Prop} {G : DG} {cJ : ClassId} (n : Nat) (S : DS) (d : Nat) (p1 : Int32) (o : Nat) (f : Nat → Int64) {k : Nat} {r : Int32} {S' : DS} {TC TZ : Nat} (hkd : dK S d = 12) (hq : q_X11_jobs G.2.2 n S d p1 = some ((k, r), S', TC, TZ)) (hk : k = 0 ∨ k = 2) : Met l yL_jobs (wL yL_jobs cL_jobs 4 [(0, 9, 12, 13)]) (rD 13 351 TC TZ) (va_Pc [.ref d, .int p1, .ref o] (lPre D A G S o cJ f)) (lQ D A G o cJ (if k = 0 then 0 else 1) S' (if k = 0 then r.toInt64 else f 0)) TC TZ (lA A o) := by
  refine l_head hst (by decide) (Nat.le_of_ble_eq_true rfl) ?_
  intro p e s m args below meth c ls B htab hW ho hno hJ hl
  have hx := B.1
  have hb := B.2.1
  have hl : lv_has ls 4 [(0, .ref d), (1, .int p1), (2, .ref o)] := hl
  have hT : 0 + (TC + 0) = (rD 13 351 TC TZ).cells ∧ 0 + (TZ + 0) = (rD 13 351 TC TZ).slots := ⟨Nat.zero_add _, Nat.zero_add _⟩
  have hT2 : 0 + TC = (rD 13 351 TC TZ).cells ∧ 0 + TZ = (rD 13 351 TC TZ).slots := ⟨Nat.zero_add _, Nat.zero_add _⟩
  refine lv_aload_n hx hb dL_jobs_0 rfl (lv_at hl 2 rfl) ?_
  refine lv_iconst (v := 0) hx hb dL_jobs_1 (by decide) ?_
  refine lv_aload_n hx hb dL_jobs_2 rfl (lv_at hl 0 rfl) ?_
  refine lv_iload_n hx hb dL_jobs_3 rfl (lv_at hl 1 rfl) ?_
  have hrun := x_runV (pc := 4) (ls := ls) (below := below) (e := e) (st := [.int p1, .ref d, .int 0, .ref o]) (As := [.int p1]) (rest := [.int 0, .ref o]) B hW hl.1 (d_recv B hW (ci := 11) rfl (dF_11 hkd) (by rw [hkd]; decide)) (c_X11_jobs hst n S d p1 hq) (g_V u_729 u_730 u_731 u_1 u_732) y1_X11_jobs rfl ⟨Nat.le_of_ble_eq_true rfl, Nat.le_of_ble_eq_true rfl⟩ hT rfl (Nat.le_of_ble_eq_true rfl) dL_jobs_4
  refine vx_calli hrun (va_S.rf : va_S (lA A o) s.heap s.heap []) (fun _ _ h => Or.inl h) (fun _ h => Or.inl h) (fun _ _ h => Or.inl h) (fun E ce q9 u t H1 locs1 ht hvm hp hB hz hk1 hS hc hv hcl => ?_) (fun r1 u t H1 locs1 ht hvm hw hB hz hk1 hS => ?_)
  · obtain ⟨hk0, rfl⟩ := hp
    obtain ⟨rfl, hB⟩ := hB
    rw [ht] at hB
    have hoo := (hk1 o (Array.getElem?_eq_some_iff.mp ho).1 hno.1).trans ho
    rcases hk with rfl | rfl
    · exact absurd rfl hk0
    · refine l_catch1 (x := ⟨0, 9, 12, 13⟩) B htab (by decide) (by decide) u_105 un_3 hc hv hcl ?_
      refine lv_astore_n (lv' := [(3, .ref q9), (0, .ref d), (1, .int p1), (2, .ref o)]) hx hb dL_jobs_12 rfl hl (by decide) rfl (fun ls hl => ?_)
      refine lv_iconst (v := 1) hx hb dL_jobs_13 (by decide) ?_
      exact l_ret B ⟨_, hB⟩ hoo rfl hS hT2 dL_jobs_14
  · obtain ⟨rfl, rfl, rfl⟩ := hw
    have hB : dH D A G u t.heap := hB
    rw [ht] at hB
    have hoo := (hk1 o (Array.getElem?_eq_some_iff.mp ho).1 hno.1).trans ho
    refine lv_i2l (v := r1.toInt64) hx hb dL_jobs_7 rfl ?_
    refine l_store (F := lA A o) (H0 := s.heap) B hJ hoo dL_jobs_8 hS (Or.inr rfl) (fun H2 locs2 ho2 hz2 hk2 hS2 => ?_)
    refine lv_goto (tgt := 15) hx hb dL_jobs_9 (by decide) ?_
    refine lv_iconst (v := 0) hx hb dL_jobs_15 (by decide) ?_
    exact l_ret B ⟨_, dH_any hB hz2 (fun q hq hK _ => hk2 q hq (dH_ne hB hno hK))⟩ ho2 rfl hS2 hT2 dL_jobs_16
set_option maxHeartbeats 4000000 in
set_option maxRecDepth 100000 in
theorem h_L_state {l : Launch} (hst : l.stackTraces = false) {D : va_G} {A : Nat → Prop} {G : DG} {cJ : ClassId} (S : DS) (d : Nat) (p1 : Int32) (o : Nat) (f : Nat → Int64) {k : Nat} {r : Int32} {S' : DS} {TC TZ : Nat} (hkd : dK S d = 12) (hq : q_X11_state G.2.2 S d p1 = some ((k, r), S', TC, TZ)) (hk : k = 0 ∨ k = 1) : Met l yL_state (wL yL_state cL_state 4 [(0, 9, 12, 19)]) (rD 8 135 TC TZ) (va_Pc [.ref d, .int p1, .ref o] (lPre D A G S o cJ f)) (lQ D A G o cJ (if k = 0 then 0 else 1) S' (if k = 0 then r.toInt64 else f 0)) TC TZ (lA A o) := by
  refine l_head hst (by decide) (Nat.le_of_ble_eq_true rfl) ?_
  intro p e s m args below meth c ls B htab hW ho hno hJ hl
  have hx := B.1
  have hb := B.2.1
  have hl : lv_has ls 4 [(0, .ref d), (1, .int p1), (2, .ref o)] := hl
  have hT : 0 + (TC + 0) = (rD 8 135 TC TZ).cells ∧ 0 + (TZ + 0) = (rD 8 135 TC TZ).slots := ⟨Nat.zero_add _, Nat.zero_add _⟩
  have hT2 : 0 + TC = (rD 8 135 TC TZ).cells ∧ 0 + TZ = (rD 8 135 TC TZ).slots := ⟨Nat.zero_add _, Nat.zero_add _⟩
  refine lv_aload_n hx hb dL_state_0 rfl (lv_at hl 2 rfl) ?_
  refine lv_iconst (v := 0) hx hb dL_state_1 (by decide) ?_
  refine lv_aload_n hx hb dL_state_2 rfl (lv_at hl 0 rfl) ?_
  refine lv_iload_n hx hb dL_state_3 rfl (lv_at hl 1 rfl) ?_
  have hrun := x_runV (pc := 4) (ls := ls) (below := below) (e := e) (st := [.int p1, .ref d, .int 0, .ref o]) (As := [.int p1]) (rest := [.int 0, .ref o]) B hW hl.1 (d_recv B hW (ci := 11) rfl (dF_11 hkd) (by rw [hkd]; decide)) (c_X11_state hst S d p1 hq) (g_V u_793 u_794 u_795 u_1 u_796) y1_X11_state rfl ⟨Nat.le_of_ble_eq_true rfl, Nat.le_of_ble_eq_true rfl⟩ hT rfl (Nat.le_of_ble_eq_true rfl) dL_state_4
  refine vx_calli hrun (va_S.rf : va_S (lA A o) s.heap s.heap []) (fun _ _ h => Or.inl h) (fun _ h => Or.inl h) (fun _ _ h => Or.inl h) (fun E ce q9 u t H1 locs1 ht hvm hp hB hz hk1 hS hc hv hcl => ?_) (fun r1 u t H1 locs1 ht hvm hw hB hz hk1 hS => ?_)
  · obtain ⟨hk0, rfl⟩ := hp
    obtain ⟨rfl, hB⟩ := hB
    rw [ht] at hB
    have hoo := (hk1 o (Array.getElem?_eq_some_iff.mp ho).1 hno.1).trans ho
    rcases hk with rfl | rfl
    · exact absurd rfl hk0
    · refine l_catch1 (x := ⟨0, 9, 12, 19⟩) B htab (by decide) (by decide) u_318 un_7 hc hv hcl ?_
      refine lv_astore_n (lv' := [(3, .ref q9), (0, .ref d), (1, .int p1), (2, .ref o)]) hx hb dL_state_12 rfl hl (by decide) rfl (fun ls hl => ?_)
      refine lv_iconst (v := 1) hx hb dL_state_13 (by decide) ?_
      exact l_ret B ⟨_, hB⟩ hoo rfl hS hT2 dL_state_14
  · obtain ⟨rfl, rfl, rfl⟩ := hw
    have hB : dH D A G u t.heap := hB
    rw [ht] at hB
    have hoo := (hk1 o (Array.getElem?_eq_some_iff.mp ho).1 hno.1).trans ho
    refine lv_i2l (v := r1.toInt64) hx hb dL_state_7 rfl ?_
    refine l_store (F := lA A o) (H0 := s.heap) B hJ hoo dL_state_8 hS (Or.inr rfl) (fun H2 locs2 ho2 hz2 hk2 hS2 => ?_)
    refine lv_goto (tgt := 15) hx hb dL_state_9 (by decide) ?_
    refine lv_iconst (v := 0) hx hb dL_state_15 (by decide) ?_
    exact l_ret B ⟨_, dH_any hB hz2 (fun q hq hK _ => hk2 q hq (dH_ne hB hno hK))⟩ ho2 rfl hS2 hT2 dL_state_16
set_option maxHeartbeats 4000000 in
set_option maxRecDepth 100000 in
theorem h_L_result {l : Launch} (hst : l.stackTraces = false) {D : va_G} {A : Nat → Prop} {G : DG} {cJ : ClassId} (S : DS) (d : Nat) (p1 : Int32) (o : Nat) (f : Nat → Int64) {k : Nat} {r : Int32} {S' : DS} {TC TZ : Nat} (hkd : dK S d = 12) (hq : q_X11_result G.2.2 S d p1 = some ((k, r), S', TC, TZ)) (hk : k = 0 ∨ k = 1) : Met l yL_result (wL yL_result cL_result 4 [(0, 9, 12, 19)]) (rD 8 134 TC TZ) (va_Pc [.ref d, .int p1, .ref o] (lPre D A G S o cJ f)) (lQ D A G o cJ (if k = 0 then 0 else 1) S' (if k = 0 then r.toInt64 else f 0)) TC TZ (lA A o) := by
  refine l_head hst (by decide) (Nat.le_of_ble_eq_true rfl) ?_
  intro p e s m args below meth c ls B htab hW ho hno hJ hl
  have hx := B.1
  have hb := B.2.1
  have hl : lv_has ls 4 [(0, .ref d), (1, .int p1), (2, .ref o)] := hl
  have hT : 0 + (TC + 0) = (rD 8 134 TC TZ).cells ∧ 0 + (TZ + 0) = (rD 8 134 TC TZ).slots := ⟨Nat.zero_add _, Nat.zero_add _⟩
  have hT2 : 0 + TC = (rD 8 134 TC TZ).cells ∧ 0 + TZ = (rD 8 134 TC TZ).slots := ⟨Nat.zero_add _, Nat.zero_add _⟩
  refine lv_aload_n hx hb dL_result_0 rfl (lv_at hl 2 rfl) ?_
  refine lv_iconst (v := 0) hx hb dL_result_1 (by decide) ?_
  refine lv_aload_n hx hb dL_result_2 rfl (lv_at hl 0 rfl) ?_
  refine lv_iload_n hx hb dL_result_3 rfl (lv_at hl 1 rfl) ?_
  have hrun := x_runV (pc := 4) (ls := ls) (below := below) (e := e) (st := [.int p1, .ref d, .int 0, .ref o]) (As := [.int p1]) (rest := [.int 0, .ref o]) B hW hl.1 (d_recv B hW (ci := 11) rfl (dF_11 hkd) (by rw [hkd]; decide)) (c_X11_result hst S d p1 hq) (g_V u_800 u_801 u_802 u_1 u_803) y1_X11_result rfl ⟨Nat.le_of_ble_eq_true rfl, Nat.le_of_ble_eq_true rfl⟩ hT rfl (Nat.le_of_ble_eq_true rfl) dL_result_4
  refine vx_calli hrun (va_S.rf : va_S (lA A o) s.heap s.heap []) (fun _ _ h => Or.inl h) (fun _ h => Or.inl h) (fun _ _ h => Or.inl h) (fun E ce q9 u t H1 locs1 ht hvm hp hB hz hk1 hS hc hv hcl => ?_) (fun r1 u t H1 locs1 ht hvm hw hB hz hk1 hS => ?_)
  · obtain ⟨hk0, rfl⟩ := hp
    obtain ⟨rfl, hB⟩ := hB
    rw [ht] at hB
    have hoo := (hk1 o (Array.getElem?_eq_some_iff.mp ho).1 hno.1).trans ho
    rcases hk with rfl | rfl
    · exact absurd rfl hk0
    · refine l_catch1 (x := ⟨0, 9, 12, 19⟩) B htab (by decide) (by decide) u_318 un_7 hc hv hcl ?_
      refine lv_astore_n (lv' := [(3, .ref q9), (0, .ref d), (1, .int p1), (2, .ref o)]) hx hb dL_result_12 rfl hl (by decide) rfl (fun ls hl => ?_)
      refine lv_iconst (v := 1) hx hb dL_result_13 (by decide) ?_
      exact l_ret B ⟨_, hB⟩ hoo rfl hS hT2 dL_result_14
  · obtain ⟨rfl, rfl, rfl⟩ := hw
    have hB : dH D A G u t.heap := hB
    rw [ht] at hB
    have hoo := (hk1 o (Array.getElem?_eq_some_iff.mp ho).1 hno.1).trans ho
    refine lv_i2l (v := r1.toInt64) hx hb dL_result_7 rfl ?_
    refine l_store (F := lA A o) (H0 := s.heap) B hJ hoo dL_result_8 hS (Or.inr rfl) (fun H2 locs2 ho2 hz2 hk2 hS2 => ?_)
    refine lv_goto (tgt := 15) hx hb dL_result_9 (by decide) ?_
    refine lv_iconst (v := 0) hx hb dL_result_15 (by decide) ?_
    exact l_ret B ⟨_, dH_any hB hz2 (fun q hq hK _ => hk2 q hq (dH_ne hB hno hK))⟩ ho2 rfl hS2 hT2 dL_result_16
set_option maxHeartbeats 4000000 in
set_option maxRecDepth 100000 in
theorem h_L_kind {l : Launch} (hst : l.stackTraces = false) {D : va_G} {A : Nat → Prop} {G : DG} {cJ : ClassId} (S : DS) (d : Nat) (p1 : Int32) (o : Nat) (f : Nat → Int64) {k : Nat} {r : Int32} {S' : DS} {TC TZ : Nat} (hkd : dK S d = 12) (hq : q_X11_kind G.2.2 S d p1 = some ((k, r), S', TC, TZ)) (hk : k = 0 ∨ k = 1) : Met l yL_kind (wL yL_kind cL_kind 4 [(0, 9, 12, 19)]) (rD 8 133 TC TZ) (va_Pc [.ref d, .int p1, .ref o] (lPre D A G S o cJ f)) (lQ D A G o cJ (if k = 0 then 0 else 1) S' (if k = 0 then r.toInt64 else f 0)) TC TZ (lA A o) := by
  refine l_head hst (by decide) (Nat.le_of_ble_eq_true rfl) ?_
  intro p e s m args below meth c ls B htab hW ho hno hJ hl
  have hx := B.1
  have hb := B.2.1
  have hl : lv_has ls 4 [(0, .ref d), (1, .int p1), (2, .ref o)] := hl
  have hT : 0 + (TC + 0) = (rD 8 133 TC TZ).cells ∧ 0 + (TZ + 0) = (rD 8 133 TC TZ).slots := ⟨Nat.zero_add _, Nat.zero_add _⟩
  have hT2 : 0 + TC = (rD 8 133 TC TZ).cells ∧ 0 + TZ = (rD 8 133 TC TZ).slots := ⟨Nat.zero_add _, Nat.zero_add _⟩
  refine lv_aload_n hx hb dL_kind_0 rfl (lv_at hl 2 rfl) ?_
  refine lv_iconst (v := 0) hx hb dL_kind_1 (by decide) ?_
  refine lv_aload_n hx hb dL_kind_2 rfl (lv_at hl 0 rfl) ?_
  refine lv_iload_n hx hb dL_kind_3 rfl (lv_at hl 1 rfl) ?_
  have hrun := x_runV (pc := 4) (ls := ls) (below := below) (e := e) (st := [.int p1, .ref d, .int 0, .ref o]) (As := [.int p1]) (rest := [.int 0, .ref o]) B hW hl.1 (d_recv B hW (ci := 11) rfl (dF_11 hkd) (by rw [hkd]; decide)) (c_X11_kind hst S d p1 hq) (g_V u_807 u_808 u_809 u_1 u_810) y1_X11_kind rfl ⟨Nat.le_of_ble_eq_true rfl, Nat.le_of_ble_eq_true rfl⟩ hT rfl (Nat.le_of_ble_eq_true rfl) dL_kind_4
  refine vx_calli hrun (va_S.rf : va_S (lA A o) s.heap s.heap []) (fun _ _ h => Or.inl h) (fun _ h => Or.inl h) (fun _ _ h => Or.inl h) (fun E ce q9 u t H1 locs1 ht hvm hp hB hz hk1 hS hc hv hcl => ?_) (fun r1 u t H1 locs1 ht hvm hw hB hz hk1 hS => ?_)
  · obtain ⟨hk0, rfl⟩ := hp
    obtain ⟨rfl, hB⟩ := hB
    rw [ht] at hB
    have hoo := (hk1 o (Array.getElem?_eq_some_iff.mp ho).1 hno.1).trans ho
    rcases hk with rfl | rfl
    · exact absurd rfl hk0
    · refine l_catch1 (x := ⟨0, 9, 12, 19⟩) B htab (by decide) (by decide) u_318 un_7 hc hv hcl ?_
      refine lv_astore_n (lv' := [(3, .ref q9), (0, .ref d), (1, .int p1), (2, .ref o)]) hx hb dL_kind_12 rfl hl (by decide) rfl (fun ls hl => ?_)
      refine lv_iconst (v := 1) hx hb dL_kind_13 (by decide) ?_
      exact l_ret B ⟨_, hB⟩ hoo rfl hS hT2 dL_kind_14
  · obtain ⟨rfl, rfl, rfl⟩ := hw
    have hB : dH D A G u t.heap := hB
    rw [ht] at hB
    have hoo := (hk1 o (Array.getElem?_eq_some_iff.mp ho).1 hno.1).trans ho
    refine lv_i2l (v := r1.toInt64) hx hb dL_kind_7 rfl ?_
    refine l_store (F := lA A o) (H0 := s.heap) B hJ hoo dL_kind_8 hS (Or.inr rfl) (fun H2 locs2 ho2 hz2 hk2 hS2 => ?_)
    refine lv_goto (tgt := 15) hx hb dL_kind_9 (by decide) ?_
    refine lv_iconst (v := 0) hx hb dL_kind_15 (by decide) ?_
    exact l_ret B ⟨_, dH_any hB hz2 (fun q hq hK _ => hk2 q hq (dH_ne hB hno hK))⟩ ho2 rfl hS2 hT2 dL_kind_16
set_option maxHeartbeats 4000000 in
set_option maxRecDepth 100000 in
theorem h_L_part {l : Launch} (hst : l.stackTraces = false) {D : va_G} {A : Nat → Prop} {G : DG} {cJ : ClassId} (S : DS) (d : Nat) (p1 p2 : Int32) (o : Nat) (f : Nat → Int64) {k : Nat} {r : Int32} {S' : DS} {TC TZ : Nat} (hkd : dK S d = 12) (hq : q_X11_part G.2.2 S d p1 p2 = some ((k, r), S', TC, TZ)) (hk : k = 0 ∨ k = 1) : Met l yL_part (wL yL_part cL_part 5 [(0, 10, 13, 19)]) (rD 9 157 TC TZ) (va_Pc [.ref d, .int p1, .int p2, .ref o] (lPre D A G S o cJ f)) (lQ D A G o cJ (if k = 0 then 0 else 1) S' (if k = 0 then r.toInt64 else f 0)) TC TZ (lA A o) := by
  refine l_head hst (by decide) (Nat.le_of_ble_eq_true rfl) ?_
  intro p e s m args below meth c ls B htab hW ho hno hJ hl
  have hx := B.1
  have hb := B.2.1
  have hl : lv_has ls 5 [(0, .ref d), (1, .int p1), (2, .int p2), (3, .ref o)] := hl
  have hT : 0 + (TC + 0) = (rD 9 157 TC TZ).cells ∧ 0 + (TZ + 0) = (rD 9 157 TC TZ).slots := ⟨Nat.zero_add _, Nat.zero_add _⟩
  have hT2 : 0 + TC = (rD 9 157 TC TZ).cells ∧ 0 + TZ = (rD 9 157 TC TZ).slots := ⟨Nat.zero_add _, Nat.zero_add _⟩
  refine lv_aload_n hx hb dL_part_0 rfl (lv_at hl 3 rfl) ?_
  refine lv_iconst (v := 0) hx hb dL_part_1 (by decide) ?_
  refine lv_aload_n hx hb dL_part_2 rfl (lv_at hl 0 rfl) ?_
  refine lv_iload_n hx hb dL_part_3 rfl (lv_at hl 1 rfl) ?_
  refine lv_iload_n hx hb dL_part_4 rfl (lv_at hl 2 rfl) ?_
  have hrun := x_runV (pc := 5) (ls := ls) (below := below) (e := e) (st := [.int p2, .int p1, .ref d, .int 0, .ref o]) (As := [.int p1, .int p2]) (rest := [.int 0, .ref o]) B hW hl.1 (d_recv B hW (ci := 11) rfl (dF_11 hkd) (by rw [hkd]; decide)) (c_X11_part hst S d p1 p2 hq) (g_V u_819 u_820 u_821 u_1 u_822) y1_X11_part rfl ⟨Nat.le_of_ble_eq_true rfl, Nat.le_of_ble_eq_true rfl⟩ hT rfl (Nat.le_of_ble_eq_true rfl) dL_part_5
  refine vx_calli hrun (va_S.rf : va_S (lA A o) s.heap s.heap []) (fun _ _ h => Or.inl h) (fun _ h => Or.inl h) (fun _ _ h => Or.inl h) (fun E ce q9 u t H1 locs1 ht hvm hp hB hz hk1 hS hc hv hcl => ?_) (fun r1 u t H1 locs1 ht hvm hw hB hz hk1 hS => ?_)
  · obtain ⟨hk0, rfl⟩ := hp
    obtain ⟨rfl, hB⟩ := hB
    rw [ht] at hB
    have hoo := (hk1 o (Array.getElem?_eq_some_iff.mp ho).1 hno.1).trans ho
    rcases hk with rfl | rfl
    · exact absurd rfl hk0
    · refine l_catch1 (x := ⟨0, 10, 13, 19⟩) B htab (by decide) (by decide) u_318 un_7 hc hv hcl ?_
      refine lv_astore (lv' := [(4, .ref q9), (0, .ref d), (1, .int p1), (2, .int p2), (3, .ref o)]) hx hb dL_part_13 hl (by decide) rfl (fun ls hl => ?_)
      refine lv_iconst (v := 1) hx hb dL_part_15 (by decide) ?_
      exact l_ret B ⟨_, hB⟩ hoo rfl hS hT2 dL_part_16
  · obtain ⟨rfl, rfl, rfl⟩ := hw
    have hB : dH D A G u t.heap := hB
    rw [ht] at hB
    have hoo := (hk1 o (Array.getElem?_eq_some_iff.mp ho).1 hno.1).trans ho
    refine lv_i2l (v := r1.toInt64) hx hb dL_part_8 rfl ?_
    refine l_store (F := lA A o) (H0 := s.heap) B hJ hoo dL_part_9 hS (Or.inr rfl) (fun H2 locs2 ho2 hz2 hk2 hS2 => ?_)
    refine lv_goto (tgt := 17) hx hb dL_part_10 (by decide) ?_
    refine lv_iconst (v := 0) hx hb dL_part_17 (by decide) ?_
    exact l_ret B ⟨_, dH_any hB hz2 (fun q hq hK _ => hk2 q hq (dH_ne hB hno hK))⟩ ho2 rfl hS2 hT2 dL_part_18
set_option maxHeartbeats 4000000 in
set_option maxRecDepth 100000 in
theorem h_L_count {l : Launch} (hst : l.stackTraces = false) {D : va_G} {A : Nat → Prop} {G : DG} {cJ : ClassId} (S : DS) (d : Nat) (p1 : Int32) (o : Nat) (f : Nat → Int64) {k : Nat} {r : Int32} {S' : DS} {TC TZ : Nat} (hkd : dK S d = 12) (hq : q_X11_count G.2.2 S d p1 = some ((k, r), S', TC, TZ)) (hk : k = 0 ∨ k = 1) : Met l yL_count (wL yL_count cL_count 4 [(0, 9, 12, 19)]) (rD 7 111 TC TZ) (va_Pc [.ref d, .int p1, .ref o] (lPre D A G S o cJ f)) (lQ D A G o cJ (if k = 0 then 0 else 1) S' (if k = 0 then r.toInt64 else f 0)) TC TZ (lA A o) := by
  refine l_head hst (by decide) (Nat.le_of_ble_eq_true rfl) ?_
  intro p e s m args below meth c ls B htab hW ho hno hJ hl
  have hx := B.1
  have hb := B.2.1
  have hl : lv_has ls 4 [(0, .ref d), (1, .int p1), (2, .ref o)] := hl
  have hT : 0 + (TC + 0) = (rD 7 111 TC TZ).cells ∧ 0 + (TZ + 0) = (rD 7 111 TC TZ).slots := ⟨Nat.zero_add _, Nat.zero_add _⟩
  have hT2 : 0 + TC = (rD 7 111 TC TZ).cells ∧ 0 + TZ = (rD 7 111 TC TZ).slots := ⟨Nat.zero_add _, Nat.zero_add _⟩
  refine lv_aload_n hx hb dL_count_0 rfl (lv_at hl 2 rfl) ?_
  refine lv_iconst (v := 0) hx hb dL_count_1 (by decide) ?_
  refine lv_aload_n hx hb dL_count_2 rfl (lv_at hl 0 rfl) ?_
  refine lv_iload_n hx hb dL_count_3 rfl (lv_at hl 1 rfl) ?_
  have hrun := x_runV (pc := 4) (ls := ls) (below := below) (e := e) (st := [.int p1, .ref d, .int 0, .ref o]) (As := [.int p1]) (rest := [.int 0, .ref o]) B hW hl.1 (d_recv B hW (ci := 11) rfl (dF_11 hkd) (by rw [hkd]; decide)) (c_X11_count hst S d p1 hq) (g_V u_831 u_832 u_833 u_1 u_834) y1_X11_count rfl ⟨Nat.le_of_ble_eq_true rfl, Nat.le_of_ble_eq_true rfl⟩ hT rfl (Nat.le_of_ble_eq_true rfl) dL_count_4
  refine vx_calli hrun (va_S.rf : va_S (lA A o) s.heap s.heap []) (fun _ _ h => Or.inl h) (fun _ h => Or.inl h) (fun _ _ h => Or.inl h) (fun E ce q9 u t H1 locs1 ht hvm hp hB hz hk1 hS hc hv hcl => ?_) (fun r1 u t H1 locs1 ht hvm hw hB hz hk1 hS => ?_)
  · obtain ⟨hk0, rfl⟩ := hp
    obtain ⟨rfl, hB⟩ := hB
    rw [ht] at hB
    have hoo := (hk1 o (Array.getElem?_eq_some_iff.mp ho).1 hno.1).trans ho
    rcases hk with rfl | rfl
    · exact absurd rfl hk0
    · refine l_catch1 (x := ⟨0, 9, 12, 19⟩) B htab (by decide) (by decide) u_318 un_7 hc hv hcl ?_
      refine lv_astore_n (lv' := [(3, .ref q9), (0, .ref d), (1, .int p1), (2, .ref o)]) hx hb dL_count_12 rfl hl (by decide) rfl (fun ls hl => ?_)
      refine lv_iconst (v := 1) hx hb dL_count_13 (by decide) ?_
      exact l_ret B ⟨_, hB⟩ hoo rfl hS hT2 dL_count_14
  · obtain ⟨rfl, rfl, rfl⟩ := hw
    have hB : dH D A G u t.heap := hB
    rw [ht] at hB
    have hoo := (hk1 o (Array.getElem?_eq_some_iff.mp ho).1 hno.1).trans ho
    refine lv_i2l (v := r1.toInt64) hx hb dL_count_7 rfl ?_
    refine l_store (F := lA A o) (H0 := s.heap) B hJ hoo dL_count_8 hS (Or.inr rfl) (fun H2 locs2 ho2 hz2 hk2 hS2 => ?_)
    refine lv_goto (tgt := 15) hx hb dL_count_9 (by decide) ?_
    refine lv_iconst (v := 0) hx hb dL_count_15 (by decide) ?_
    exact l_ret B ⟨_, dH_any hB hz2 (fun q hq hK _ => hk2 q hq (dH_ne hB hno hK))⟩ ho2 rfl hS2 hT2 dL_count_16
