theorem un_0 : Cond.fieldLinkNest "PromiseDesk$Element" 23 "PromiseDesk" "threw" "Z" "PromiseDesk" ∈ dNW := List.mem_of_getElem? (i := 0) rfl
theorem un_1 : Cond.fieldLinkNest "PromiseDesk$Lastly" 25 "PromiseDesk" "threw" "Z" "PromiseDesk" ∈ dNW := List.mem_of_getElem? (i := 1) rfl
theorem un_2 : Cond.fieldLinkNest "PromiseDesk$Simple" 32 "PromiseDesk" "threw" "Z" "PromiseDesk" ∈ dNW := List.mem_of_getElem? (i := 2) rfl
theorem un_3 : Cond.castable "java/lang/IllegalStateException" "java/lang/IllegalStateException" ∈ dNW := List.mem_of_getElem? (i := 3) rfl
theorem un_4 : Cond.declares ⟨"java/lang/RuntimeException", "<init>", "(Ljava/lang/String;)V"⟩ ∈ dNW := List.mem_of_getElem? (i := 4) rfl
theorem un_5 : Cond.declares ⟨"java/lang/Exception", "<init>", "(Ljava/lang/String;)V"⟩ ∈ dNW := List.mem_of_getElem? (i := 5) rfl
theorem un_6 : Cond.declares ⟨"java/lang/Throwable", "<init>", "(Ljava/lang/String;)V"⟩ ∈ dNW := List.mem_of_getElem? (i := 6) rfl
theorem un_7 : Cond.castable "java/lang/IllegalArgumentException" "java/lang/IllegalArgumentException" ∈ dNW := List.mem_of_getElem? (i := 7) rfl
theorem un_8 : Cond.methodLinkNest "PromiseDesk$Simple" 3 yX3_init "PromiseDesk" ∈ dNW := List.mem_of_getElem? (i := 8) rfl
theorem un_9 : Cond.methodLinkNest "PromiseDesk$Lastly" 3 yX3_init "PromiseDesk" ∈ dNW := List.mem_of_getElem? (i := 9) rfl
theorem un_10 : Cond.castable "[I" "java/lang/Cloneable" ∈ dNW := List.mem_of_getElem? (i := 10) rfl
theorem un_11 : Cond.methodLinkNest "PromiseDesk$Element" 3 yX3_init "PromiseDesk" ∈ dNW := List.mem_of_getElem? (i := 11) rfl
theorem un_12 : Cond.methodLinkNest "PromiseDesk$Simple" 28 yX11_note "PromiseDesk" ∈ dNW := List.mem_of_getElem? (i := 12) rfl
theorem un_13 : Cond.methodLinkNest "PromiseDesk$Simple" 36 yX11_resolve "PromiseDesk" ∈ dNW := List.mem_of_getElem? (i := 13) rfl
theorem un_14 : Cond.methodLinkNest "PromiseDesk$Simple" 40 yX11_reject "PromiseDesk" ∈ dNW := List.mem_of_getElem? (i := 14) rfl
theorem un_15 : Cond.declares ⟨"PromiseDesk$Function", "callIn", "(LPromiseDesk;I)I"⟩ ∈ dNW := List.mem_of_getElem? (i := 15) rfl
theorem un_16 : Cond.methodLinkNest "PromiseDesk$Element" 31 yX11_newThing "PromiseDesk" ∈ dNW := List.mem_of_getElem? (i := 16) rfl
theorem un_17 : Cond.methodLinkNest "PromiseDesk$Element" 42 yX11_complete "PromiseDesk" ∈ dNW := List.mem_of_getElem? (i := 17) rfl
theorem un_18 : Cond.methodLinkNest "PromiseDesk$Lastly" 29 yX11_promiseFor "PromiseDesk" ∈ dNW := List.mem_of_getElem? (i := 18) rfl
theorem un_19 : Cond.methodLinkNest "PromiseDesk$Lastly" 36 yX11_derive "PromiseDesk" ∈ dNW := List.mem_of_getElem? (i := 19) rfl
theorem un_20 : Cond.castable "PromiseDesk$Promise" "PromiseDesk$Thing" ∈ dNW := List.mem_of_getElem? (i := 20) rfl
theorem un_21 : Cond.castable "PromiseDesk$Thenable" "PromiseDesk$Thing" ∈ dNW := List.mem_of_getElem? (i := 21) rfl
theorem un_22 : Cond.castable "PromiseDesk$Thing" "PromiseDesk$Thing" ∈ dNW := List.mem_of_getElem? (i := 22) rfl
theorem un_23 : Cond.castable "PromiseDesk$Promise" "PromiseDesk$Promise" ∈ dNW := List.mem_of_getElem? (i := 23) rfl
theorem un_24 : Cond.castable "PromiseDesk$Thenable" "PromiseDesk$Thenable" ∈ dNW := List.mem_of_getElem? (i := 24) rfl
theorem un_25 : Cond.castable "PromiseDesk$Simple" "PromiseDesk$Simple" ∈ dNW := List.mem_of_getElem? (i := 25) rfl
theorem un_26 : Cond.castable "PromiseDesk" "java/lang/Object" ∈ dNW := List.mem_of_getElem? (i := 26) rfl
theorem un_27 : Cond.castable "PromiseDeskModel" "java/lang/Object" ∈ dNW := List.mem_of_getElem? (i := 27) rfl
theorem un_28 : Cond.castable "PromiseDesk$Promise" "java/lang/Object" ∈ dNW := List.mem_of_getElem? (i := 28) rfl
theorem un_29 : Cond.castable "PromiseDesk$Resolvers" "java/lang/Object" ∈ dNW := List.mem_of_getElem? (i := 29) rfl
theorem un_30 : Cond.castable "PromiseDesk$Simple" "java/lang/Object" ∈ dNW := List.mem_of_getElem? (i := 30) rfl
theorem un_31 : Cond.castable "PromiseDesk$Thenable" "java/lang/Object" ∈ dNW := List.mem_of_getElem? (i := 31) rfl
theorem un_32 : Cond.castable "PromiseDesk$Thing" "java/lang/Object" ∈ dNW := List.mem_of_getElem? (i := 32) rfl
theorem un_33 : Cond.castable "PromiseDesk$Job" "java/lang/Object" ∈ dNW := List.mem_of_getElem? (i := 33) rfl
theorem un_34 : Cond.castable "PromiseDesk$Lastly" "java/lang/Object" ∈ dNW := List.mem_of_getElem? (i := 34) rfl
theorem un_35 : Cond.castable "PromiseDesk$Combination" "java/lang/Object" ∈ dNW := List.mem_of_getElem? (i := 35) rfl
theorem un_36 : Cond.castable "PromiseDesk$Element" "java/lang/Object" ∈ dNW := List.mem_of_getElem? (i := 36) rfl
theorem un_37 : Cond.castable "PromiseDesk$AsyncRun" "java/lang/Object" ∈ dNW := List.mem_of_getElem? (i := 37) rfl
theorem uc_0 : ("PromiseDesk$Thing", "PromiseDesk$Promise") ∈ dNC := List.mem_of_getElem? (i := 0) rfl
theorem uc_1 : ("PromiseDesk$Thenable", "PromiseDesk$Promise") ∈ dNC := List.mem_of_getElem? (i := 1) rfl
theorem uc_2 : ("PromiseDesk$Thing", "PromiseDesk$Thenable") ∈ dNC := List.mem_of_getElem? (i := 2) rfl
theorem uc_3 : ("PromiseDesk$Promise", "PromiseDesk$Thenable") ∈ dNC := List.mem_of_getElem? (i := 3) rfl
theorem uc_4 : ("java/lang/IllegalStateException", "java/lang/IllegalArgumentException") ∈ dNC := List.mem_of_getElem? (i := 4) rfl
theorem ut_0 : (242, "no room for more objects") ∈ dTx := List.mem_of_getElem? (i := 0) rfl
theorem ut_1 : (218, "out of range") ∈ dTx := List.mem_of_getElem? (i := 1) rfl
theorem ut_2 : (223, "no value") ∈ dTx := List.mem_of_getElem? (i := 2) rfl
theorem ut_3 : (227, "no promise") ∈ dTx := List.mem_of_getElem? (i := 3) rfl
theorem ut_4 : (231, "not made by promise") ∈ dTx := List.mem_of_getElem? (i := 4) rfl
theorem ut_5 : (67, "no more handlers") ∈ dTx := List.mem_of_getElem? (i := 5) rfl
theorem ut_6 : (229, "no thenable") ∈ dTx := List.mem_of_getElem? (i := 6) rfl
theorem ut_7 : (138, "the list is full") ∈ dTx := List.mem_of_getElem? (i := 7) rfl
theorem ut_8 : (244, "the log is full") ∈ dTx := List.mem_of_getElem? (i := 8) rfl
theorem ut_9 : (225, "no object") ∈ dTx := List.mem_of_getElem? (i := 9) rfl
theorem ut_10 : (240, "it has no parts") ∈ dTx := List.mem_of_getElem? (i := 10) rfl
theorem ut_11 : (215, "nothing of that number is counted") ∈ dTx := List.mem_of_getElem? (i := 11) rfl
theorem inT_0 : ∀ w ∈ u_ws RJx4a65c TJx4a65c 3, w ∈ Tw := by decide +kernel
theorem ds_0_0 {G : DG} {S : DS} {a : Nat} (h : dK S a = 1) (x : Int32) : dF G (sI S 0 a x) a = .inr (0, (dfl_0 (fun g => dI S g a) (fun g => dP S g a)).set 0 (.int x)) := by rw [dF_0 (S := sI S 0 a x) h]; simp [dfl_0, sI, fset, dI]
theorem ds_0_1 {G : DG} {S : DS} {a : Nat} (h : dK S a = 1) (x : Option Nat) : dF G (sP S 1 a x) a = .inr (0, (dfl_0 (fun g => dI S g a) (fun g => dP S g a)).set 1 (va_rf x)) := by rw [dF_0 (S := sP S 1 a x) h]; simp [dfl_0, sP, fset, dP]
theorem ds_0_2 {G : DG} {S : DS} {a : Nat} (h : dK S a = 1) (x : Int32) : dF G (sI S 2 a x) a = .inr (0, (dfl_0 (fun g => dI S g a) (fun g => dP S g a)).set 2 (.int x)) := by rw [dF_0 (S := sI S 2 a x) h]; simp [dfl_0, sI, fset, dI]
theorem dw_0 {G : DG} : ∀ S : DS, dF G (sO S 1) (dn S) = .inr (0, [.int 0, .null, .int 0]) := fun S => by rw [dF_0 (S := sO S 1) (va_up_self _ _ _)]; simp [dfl_0, sO, va_up_self, va_rf, dI, dP]
theorem inT_1 : ∀ w ∈ u_ws RX0 TX0 5, w ∈ Tw := by decide +kernel
theorem ds_1_0 {G : DG} {S : DS} {a : Nat} (h : dK S a = 2) (x : Option Nat) : dF G (sP S 100 a x) a = .inr (1, (dfl_1 (fun g => dI S g a) (fun g => dP S g a)).set 0 (va_rf x)) := by rw [dF_1 (S := sP S 100 a x) h]; simp [dfl_1, sP, fset, dP]
theorem ds_1_1 {G : DG} {S : DS} {a : Nat} (h : dK S a = 2) (x : Option Nat) : dF G (sP S 101 a x) a = .inr (1, (dfl_1 (fun g => dI S g a) (fun g => dP S g a)).set 1 (va_rf x)) := by rw [dF_1 (S := sP S 101 a x) h]; simp [dfl_1, sP, fset, dP]
theorem ds_1_2 {G : DG} {S : DS} {a : Nat} (h : dK S a = 2) (x : Int32) : dF G (sI S 102 a x) a = .inr (1, (dfl_1 (fun g => dI S g a) (fun g => dP S g a)).set 2 (.int x)) := by rw [dF_1 (S := sI S 102 a x) h]; simp [dfl_1, sI, fset, dI]
theorem ds_1_3 {G : DG} {S : DS} {a : Nat} (h : dK S a = 2) (x : Option Nat) : dF G (sP S 103 a x) a = .inr (1, (dfl_1 (fun g => dI S g a) (fun g => dP S g a)).set 3 (va_rf x)) := by rw [dF_1 (S := sP S 103 a x) h]; simp [dfl_1, sP, fset, dP]
theorem ds_1_4 {G : DG} {S : DS} {a : Nat} (h : dK S a = 2) (x : Int32) : dF G (sI S 104 a x) a = .inr (1, (dfl_1 (fun g => dI S g a) (fun g => dP S g a)).set 4 (.int x)) := by rw [dF_1 (S := sI S 104 a x) h]; simp [dfl_1, sI, fset, dI]
theorem dw_1 {G : DG} : ∀ S : DS, dF G (sO S 2) (dn S) = .inr (1, [.null, .null, .int 0, .null, .int 0]) := fun S => by rw [dF_1 (S := sO S 2) (va_up_self _ _ _)]; simp [dfl_1, sO, va_up_self, va_rf, dI, dP]
theorem inT_2 : ∀ w ∈ u_ws RX1 TX1 4, w ∈ Tw := by decide +kernel
theorem ds_2_0 {G : DG} {S : DS} {a : Nat} (h : dK S a = 3) (x : Int32) : dF G (sI S 200 a x) a = .inr (2, (dfl_2 (fun g => dI S g a) (fun g => dP S g a)).set 0 (.int x)) := by rw [dF_2 (S := sI S 200 a x) h]; simp [dfl_2, sI, fset, dI]
theorem ds_2_1 {G : DG} {S : DS} {a : Nat} (h : dK S a = 3) (x : Option Nat) : dF G (sP S 201 a x) a = .inr (2, (dfl_2 (fun g => dI S g a) (fun g => dP S g a)).set 1 (va_rf x)) := by rw [dF_2 (S := sP S 201 a x) h]; simp [dfl_2, sP, fset, dP]
theorem ds_2_2 {G : DG} {S : DS} {a : Nat} (h : dK S a = 3) (x : Option Nat) : dF G (sP S 202 a x) a = .inr (2, (dfl_2 (fun g => dI S g a) (fun g => dP S g a)).set 2 (va_rf x)) := by rw [dF_2 (S := sP S 202 a x) h]; simp [dfl_2, sP, fset, dP]
theorem ds_2_3 {G : DG} {S : DS} {a : Nat} (h : dK S a = 3) (x : Int32) : dF G (sI S 203 a x) a = .inr (2, (dfl_2 (fun g => dI S g a) (fun g => dP S g a)).set 3 (.int x)) := by rw [dF_2 (S := sI S 203 a x) h]; simp [dfl_2, sI, fset, dI]
theorem dw_2 {G : DG} : ∀ S : DS, dF G (sO S 3) (dn S) = .inr (2, [.int 0, .null, .null, .int 0]) := fun S => by rw [dF_2 (S := sO S 3) (va_up_self _ _ _)]; simp [dfl_2, sO, va_up_self, va_rf, dI, dP]
theorem inT_3 : ∀ w ∈ u_ws RX2 TX2 3, w ∈ Tw := by decide +kernel
theorem ds_3_0 {G : DG} {S : DS} {a : Nat} (h : dK S a = 4) (x : Option Nat) : dF G (sP S 300 a x) a = .inr (3, (dfl_3 (fun g => dI S g a) (fun g => dP S g a)).set 0 (va_rf x)) := by rw [dF_3 (S := sP S 300 a x) h]; simp [dfl_3, sP, fset, dP]
theorem ds_3_1 {G : DG} {S : DS} {a : Nat} (h : dK S a = 4) (x : Int32) : dF G (sI S 301 a x) a = .inr (3, (dfl_3 (fun g => dI S g a) (fun g => dP S g a)).set 1 (.int x)) := by rw [dF_3 (S := sI S 301 a x) h]; simp [dfl_3, sI, fset, dI]
theorem ds_3_2 {G : DG} {S : DS} {a : Nat} (h : dK S a = 4) (x : Int32) : dF G (sI S 302 a x) a = .inr (3, (dfl_3 (fun g => dI S g a) (fun g => dP S g a)).set 2 (.int x)) := by rw [dF_3 (S := sI S 302 a x) h]; simp [dfl_3, sI, fset, dI]
theorem dw_3 {G : DG} : ∀ S : DS, dF G (sO S 4) (dn S) = .inr (3, [.null, .int 0, .int 0]) := fun S => by rw [dF_3 (S := sO S 4) (va_up_self _ _ _)]; simp [dfl_3, sO, va_up_self, va_rf, dI, dP]
theorem inT_4 : ∀ w ∈ u_ws RX4 TX4 8, w ∈ Tw := by decide +kernel
theorem ds_4_0 {G : DG} {S : DS} {a : Nat} (h : dK S a = 5) (x : Option Nat) : dF G (sP S 400 a x) a = .inr (4, (dfl_4 (fun g => dI S g a) (fun g => dP S g a)).set 0 (va_rf x)) := by rw [dF_4 (S := sP S 400 a x) h]; simp [dfl_4, sP, fset, dP]
theorem ds_4_1 {G : DG} {S : DS} {a : Nat} (h : dK S a = 5) (x : Option Nat) : dF G (sP S 401 a x) a = .inr (4, (dfl_4 (fun g => dI S g a) (fun g => dP S g a)).set 1 (va_rf x)) := by rw [dF_4 (S := sP S 401 a x) h]; simp [dfl_4, sP, fset, dP]
theorem ds_4_2 {G : DG} {S : DS} {a : Nat} (h : dK S a = 5) (x : Option Nat) : dF G (sP S 402 a x) a = .inr (4, (dfl_4 (fun g => dI S g a) (fun g => dP S g a)).set 2 (va_rf x)) := by rw [dF_4 (S := sP S 402 a x) h]; simp [dfl_4, sP, fset, dP]
theorem ds_4_3 {G : DG} {S : DS} {a : Nat} (h : dK S a = 5) (x : Option Nat) : dF G (sP S 403 a x) a = .inr (4, (dfl_4 (fun g => dI S g a) (fun g => dP S g a)).set 3 (va_rf x)) := by rw [dF_4 (S := sP S 403 a x) h]; simp [dfl_4, sP, fset, dP]
theorem ds_4_4 {G : DG} {S : DS} {a : Nat} (h : dK S a = 5) (x : Option Nat) : dF G (sP S 404 a x) a = .inr (4, (dfl_4 (fun g => dI S g a) (fun g => dP S g a)).set 4 (va_rf x)) := by rw [dF_4 (S := sP S 404 a x) h]; simp [dfl_4, sP, fset, dP]
theorem ds_4_5 {G : DG} {S : DS} {a : Nat} (h : dK S a = 5) (x : Int32) : dF G (sI S 405 a x) a = .inr (4, (dfl_4 (fun g => dI S g a) (fun g => dP S g a)).set 5 (.int x)) := by rw [dF_4 (S := sI S 405 a x) h]; simp [dfl_4, sI, fset, dI]
theorem ds_4_6 {G : DG} {S : DS} {a : Nat} (h : dK S a = 5) (x : Int32) : dF G (sI S 406 a x) a = .inr (4, (dfl_4 (fun g => dI S g a) (fun g => dP S g a)).set 6 (.int x)) := by rw [dF_4 (S := sI S 406 a x) h]; simp [dfl_4, sI, fset, dI]
theorem ds_4_7 {G : DG} {S : DS} {a : Nat} (h : dK S a = 5) (x : Option Nat) : dF G (sP S 407 a x) a = .inr (4, (dfl_4 (fun g => dI S g a) (fun g => dP S g a)).set 7 (va_rf x)) := by rw [dF_4 (S := sP S 407 a x) h]; simp [dfl_4, sP, fset, dP]
theorem dw_4 {G : DG} : ∀ S : DS, dF G (sO S 5) (dn S) = .inr (4, [.null, .null, .null, .null, .null, .int 0, .int 0, .null]) := fun S => by rw [dF_4 (S := sO S 5) (va_up_self _ _ _)]; simp [dfl_4, sO, va_up_self, va_rf, dI, dP]
theorem inT_5 : ∀ w ∈ u_ws RX5 TX5 2, w ∈ Tw := by decide +kernel
theorem ds_5_0 {G : DG} {S : DS} {a : Nat} (h : dK S a = 6) (x : Option Nat) : dF G (sP S 500 a x) a = .inr (5, (dfl_5 (fun g => dI S g a) (fun g => dP S g a)).set 0 (va_rf x)) := by rw [dF_5 (S := sP S 500 a x) h]; simp [dfl_5, sP, fset, dP]
theorem ds_5_1 {G : DG} {S : DS} {a : Nat} (h : dK S a = 6) (x : Int32) : dF G (sI S 501 a x) a = .inr (5, (dfl_5 (fun g => dI S g a) (fun g => dP S g a)).set 1 (.int x)) := by rw [dF_5 (S := sI S 501 a x) h]; simp [dfl_5, sI, fset, dI]
theorem dw_5 {G : DG} : ∀ S : DS, dF G (sO S 6) (dn S) = .inr (5, [.null, .int 0]) := fun S => by rw [dF_5 (S := sO S 6) (va_up_self _ _ _)]; simp [dfl_5, sO, va_up_self, va_rf, dI, dP]
theorem inT_6 : ∀ w ∈ u_ws RX6 TX6 9, w ∈ Tw := by decide +kernel
theorem ds_6_0 {G : DG} {S : DS} {a : Nat} (h : dK S a = 7) (x : Int32) : dF G (sI S 1000 a x) a = .inr (6, (dfl_6 (fun g => dI S g a) (fun g => dP S g a)).set 0 (.int x)) := by rw [dF_6 (S := sI S 1000 a x) h]; simp [dfl_6, sI, fset, dI]
theorem ds_6_1 {G : DG} {S : DS} {a : Nat} (h : dK S a = 7) (x : Int32) : dF G (sI S 1001 a x) a = .inr (6, (dfl_6 (fun g => dI S g a) (fun g => dP S g a)).set 1 (.int x)) := by rw [dF_6 (S := sI S 1001 a x) h]; simp [dfl_6, sI, fset, dI]
theorem ds_6_2 {G : DG} {S : DS} {a : Nat} (h : dK S a = 7) (x : Option Nat) : dF G (sP S 1002 a x) a = .inr (6, (dfl_6 (fun g => dI S g a) (fun g => dP S g a)).set 2 (va_rf x)) := by rw [dF_6 (S := sP S 1002 a x) h]; simp [dfl_6, sP, fset, dP]
theorem ds_6_3 {G : DG} {S : DS} {a : Nat} (h : dK S a = 7) (x : Int32) : dF G (sI S 603 a x) a = .inr (6, (dfl_6 (fun g => dI S g a) (fun g => dP S g a)).set 3 (.int x)) := by rw [dF_6 (S := sI S 603 a x) h]; simp [dfl_6, sI, fset, dI]
theorem ds_6_4 {G : DG} {S : DS} {a : Nat} (h : dK S a = 7) (x : Int32) : dF G (sI S 604 a x) a = .inr (6, (dfl_6 (fun g => dI S g a) (fun g => dP S g a)).set 4 (.int x)) := by rw [dF_6 (S := sI S 604 a x) h]; simp [dfl_6, sI, fset, dI]
theorem ds_6_5 {G : DG} {S : DS} {a : Nat} (h : dK S a = 7) (x : Int32) : dF G (sI S 605 a x) a = .inr (6, (dfl_6 (fun g => dI S g a) (fun g => dP S g a)).set 5 (.int x)) := by rw [dF_6 (S := sI S 605 a x) h]; simp [dfl_6, sI, fset, dI]
theorem ds_6_6 {G : DG} {S : DS} {a : Nat} (h : dK S a = 7) (x : Option Nat) : dF G (sP S 606 a x) a = .inr (6, (dfl_6 (fun g => dI S g a) (fun g => dP S g a)).set 6 (va_rf x)) := by rw [dF_6 (S := sP S 606 a x) h]; simp [dfl_6, sP, fset, dP]
theorem ds_6_7 {G : DG} {S : DS} {a : Nat} (h : dK S a = 7) (x : Option Nat) : dF G (sP S 607 a x) a = .inr (6, (dfl_6 (fun g => dI S g a) (fun g => dP S g a)).set 7 (va_rf x)) := by rw [dF_6 (S := sP S 607 a x) h]; simp [dfl_6, sP, fset, dP]
theorem ds_6_8 {G : DG} {S : DS} {a : Nat} (h : dK S a = 7) (x : Option Nat) : dF G (sP S 608 a x) a = .inr (6, (dfl_6 (fun g => dI S g a) (fun g => dP S g a)).set 8 (va_rf x)) := by rw [dF_6 (S := sP S 608 a x) h]; simp [dfl_6, sP, fset, dP]
theorem dw_6 {G : DG} : ∀ S : DS, dF G (sO S 7) (dn S) = .inr (6, [.int 0, .int 0, .null, .int 0, .int 0, .int 0, .null, .null, .null]) := fun S => by rw [dF_6 (S := sO S 7) (va_up_self _ _ _)]; simp [dfl_6, sO, va_up_self, va_rf, dI, dP]
theorem inT_7 : ∀ w ∈ u_ws RX7 TX7 2, w ∈ Tw := by decide +kernel
theorem ds_7_0 {G : DG} {S : DS} {a : Nat} (h : dK S a = 8) (x : Option Nat) : dF G (sP S 700 a x) a = .inr (7, (dfl_7 (fun g => dI S g a) (fun g => dP S g a)).set 0 (va_rf x)) := by rw [dF_7 (S := sP S 700 a x) h]; simp [dfl_7, sP, fset, dP]
theorem ds_7_1 {G : DG} {S : DS} {a : Nat} (h : dK S a = 8) (x : Int32) : dF G (sI S 701 a x) a = .inr (7, (dfl_7 (fun g => dI S g a) (fun g => dP S g a)).set 1 (.int x)) := by rw [dF_7 (S := sI S 701 a x) h]; simp [dfl_7, sI, fset, dI]
theorem dw_7 {G : DG} : ∀ S : DS, dF G (sO S 8) (dn S) = .inr (7, [.null, .int 0]) := fun S => by rw [dF_7 (S := sO S 8) (va_up_self _ _ _)]; simp [dfl_7, sO, va_up_self, va_rf, dI, dP]
theorem inT_8 : ∀ w ∈ u_ws RX8 TX8 4, w ∈ Tw := by decide +kernel
theorem ds_8_0 {G : DG} {S : DS} {a : Nat} (h : dK S a = 9) (x : Int32) : dF G (sI S 800 a x) a = .inr (8, (dfl_8 (fun g => dI S g a) (fun g => dP S g a)).set 0 (.int x)) := by rw [dF_8 (S := sI S 800 a x) h]; simp [dfl_8, sI, fset, dI]
theorem ds_8_1 {G : DG} {S : DS} {a : Nat} (h : dK S a = 9) (x : Int32) : dF G (sI S 801 a x) a = .inr (8, (dfl_8 (fun g => dI S g a) (fun g => dP S g a)).set 1 (.int x)) := by rw [dF_8 (S := sI S 801 a x) h]; simp [dfl_8, sI, fset, dI]
theorem ds_8_2 {G : DG} {S : DS} {a : Nat} (h : dK S a = 9) (x : Int32) : dF G (sI S 802 a x) a = .inr (8, (dfl_8 (fun g => dI S g a) (fun g => dP S g a)).set 2 (.int x)) := by rw [dF_8 (S := sI S 802 a x) h]; simp [dfl_8, sI, fset, dI]
theorem ds_8_3 {G : DG} {S : DS} {a : Nat} (h : dK S a = 9) (x : Option Nat) : dF G (sP S 803 a x) a = .inr (8, (dfl_8 (fun g => dI S g a) (fun g => dP S g a)).set 3 (va_rf x)) := by rw [dF_8 (S := sP S 803 a x) h]; simp [dfl_8, sP, fset, dP]
theorem dw_8 {G : DG} : ∀ S : DS, dF G (sO S 9) (dn S) = .inr (8, [.int 0, .int 0, .int 0, .null]) := fun S => by rw [dF_8 (S := sO S 9) (va_up_self _ _ _)]; simp [dfl_8, sO, va_up_self, va_rf, dI, dP]
theorem inT_9 : ∀ w ∈ u_ws RX9 TX9 9, w ∈ Tw := by decide +kernel
theorem ds_9_0 {G : DG} {S : DS} {a : Nat} (h : dK S a = 10) (x : Int32) : dF G (sI S 1000 a x) a = .inr (9, (dfl_9 (fun g => dI S g a) (fun g => dP S g a)).set 0 (.int x)) := by rw [dF_9 (S := sI S 1000 a x) h]; simp [dfl_9, sI, fset, dI]
theorem ds_9_1 {G : DG} {S : DS} {a : Nat} (h : dK S a = 10) (x : Int32) : dF G (sI S 1001 a x) a = .inr (9, (dfl_9 (fun g => dI S g a) (fun g => dP S g a)).set 1 (.int x)) := by rw [dF_9 (S := sI S 1001 a x) h]; simp [dfl_9, sI, fset, dI]
theorem ds_9_2 {G : DG} {S : DS} {a : Nat} (h : dK S a = 10) (x : Option Nat) : dF G (sP S 1002 a x) a = .inr (9, (dfl_9 (fun g => dI S g a) (fun g => dP S g a)).set 2 (va_rf x)) := by rw [dF_9 (S := sP S 1002 a x) h]; simp [dfl_9, sP, fset, dP]
theorem ds_9_3 {G : DG} {S : DS} {a : Nat} (h : dK S a = 10) (x : Int32) : dF G (sI S 903 a x) a = .inr (9, (dfl_9 (fun g => dI S g a) (fun g => dP S g a)).set 3 (.int x)) := by rw [dF_9 (S := sI S 903 a x) h]; simp [dfl_9, sI, fset, dI]
theorem ds_9_4 {G : DG} {S : DS} {a : Nat} (h : dK S a = 10) (x : Int32) : dF G (sI S 904 a x) a = .inr (9, (dfl_9 (fun g => dI S g a) (fun g => dP S g a)).set 4 (.int x)) := by rw [dF_9 (S := sI S 904 a x) h]; simp [dfl_9, sI, fset, dI]
theorem ds_9_5 {G : DG} {S : DS} {a : Nat} (h : dK S a = 10) (x : Int32) : dF G (sI S 905 a x) a = .inr (9, (dfl_9 (fun g => dI S g a) (fun g => dP S g a)).set 5 (.int x)) := by rw [dF_9 (S := sI S 905 a x) h]; simp [dfl_9, sI, fset, dI]
theorem ds_9_6 {G : DG} {S : DS} {a : Nat} (h : dK S a = 10) (x : Int32) : dF G (sI S 906 a x) a = .inr (9, (dfl_9 (fun g => dI S g a) (fun g => dP S g a)).set 6 (.int x)) := by rw [dF_9 (S := sI S 906 a x) h]; simp [dfl_9, sI, fset, dI]
theorem ds_9_7 {G : DG} {S : DS} {a : Nat} (h : dK S a = 10) (x : Int32) : dF G (sI S 907 a x) a = .inr (9, (dfl_9 (fun g => dI S g a) (fun g => dP S g a)).set 7 (.int x)) := by rw [dF_9 (S := sI S 907 a x) h]; simp [dfl_9, sI, fset, dI]
theorem ds_9_8 {G : DG} {S : DS} {a : Nat} (h : dK S a = 10) (x : Option Nat) : dF G (sP S 908 a x) a = .inr (9, (dfl_9 (fun g => dI S g a) (fun g => dP S g a)).set 8 (va_rf x)) := by rw [dF_9 (S := sP S 908 a x) h]; simp [dfl_9, sP, fset, dP]
theorem dw_9 {G : DG} : ∀ S : DS, dF G (sO S 10) (dn S) = .inr (9, [.int 0, .int 0, .null, .int 0, .int 0, .int 0, .int 0, .int 0, .null]) := fun S => by rw [dF_9 (S := sO S 10) (va_up_self _ _ _)]; simp [dfl_9, sO, va_up_self, va_rf, dI, dP]
theorem inT_10 : ∀ w ∈ u_ws RX10 TX10 3, w ∈ Tw := by decide +kernel
theorem ds_10_0 {G : DG} {S : DS} {a : Nat} (h : dK S a = 11) (x : Int32) : dF G (sI S 1000 a x) a = .inr (10, (dfl_10 (fun g => dI S g a) (fun g => dP S g a)).set 0 (.int x)) := by rw [dF_10 (S := sI S 1000 a x) h]; simp [dfl_10, sI, fset, dI]
theorem ds_10_1 {G : DG} {S : DS} {a : Nat} (h : dK S a = 11) (x : Int32) : dF G (sI S 1001 a x) a = .inr (10, (dfl_10 (fun g => dI S g a) (fun g => dP S g a)).set 1 (.int x)) := by rw [dF_10 (S := sI S 1001 a x) h]; simp [dfl_10, sI, fset, dI]
theorem ds_10_2 {G : DG} {S : DS} {a : Nat} (h : dK S a = 11) (x : Option Nat) : dF G (sP S 1002 a x) a = .inr (10, (dfl_10 (fun g => dI S g a) (fun g => dP S g a)).set 2 (va_rf x)) := by rw [dF_10 (S := sP S 1002 a x) h]; simp [dfl_10, sP, fset, dP]
theorem dw_10 {G : DG} : ∀ S : DS, dF G (sO S 11) (dn S) = .inr (10, [.int 0, .int 0, .null]) := fun S => by rw [dF_10 (S := sO S 11) (va_up_self _ _ _)]; simp [dfl_10, sO, va_up_self, va_rf, dI, dP]
theorem inT_11 : ∀ w ∈ u_ws RX11 TX11 10, w ∈ Tw := by decide +kernel
theorem ds_11_0 {G : DG} {S : DS} {a : Nat} (h : dK S a = 12) (x : Option Nat) : dF G (sP S 1100 a x) a = .inr (11, (dfl_11 (fun g => dI S g a) (fun g => dP S g a)).set 0 (va_rf x)) := by rw [dF_11 (S := sP S 1100 a x) h]; simp [dfl_11, sP, fset, dP]
theorem ds_11_1 {G : DG} {S : DS} {a : Nat} (h : dK S a = 12) (x : Option Nat) : dF G (sP S 1101 a x) a = .inr (11, (dfl_11 (fun g => dI S g a) (fun g => dP S g a)).set 1 (va_rf x)) := by rw [dF_11 (S := sP S 1101 a x) h]; simp [dfl_11, sP, fset, dP]
theorem ds_11_2 {G : DG} {S : DS} {a : Nat} (h : dK S a = 12) (x : Option Nat) : dF G (sP S 1102 a x) a = .inr (11, (dfl_11 (fun g => dI S g a) (fun g => dP S g a)).set 2 (va_rf x)) := by rw [dF_11 (S := sP S 1102 a x) h]; simp [dfl_11, sP, fset, dP]
theorem ds_11_3 {G : DG} {S : DS} {a : Nat} (h : dK S a = 12) (x : Int32) : dF G (sI S 1103 a x) a = .inr (11, (dfl_11 (fun g => dI S g a) (fun g => dP S g a)).set 3 (.int x)) := by rw [dF_11 (S := sI S 1103 a x) h]; simp [dfl_11, sI, fset, dI]
theorem ds_11_4 {G : DG} {S : DS} {a : Nat} (h : dK S a = 12) (x : Option Nat) : dF G (sP S 1104 a x) a = .inr (11, (dfl_11 (fun g => dI S g a) (fun g => dP S g a)).set 4 (va_rf x)) := by rw [dF_11 (S := sP S 1104 a x) h]; simp [dfl_11, sP, fset, dP]
theorem ds_11_5 {G : DG} {S : DS} {a : Nat} (h : dK S a = 12) (x : Int32) : dF G (sI S 1105 a x) a = .inr (11, (dfl_11 (fun g => dI S g a) (fun g => dP S g a)).set 5 (.int x)) := by rw [dF_11 (S := sI S 1105 a x) h]; simp [dfl_11, sI, fset, dI]
theorem ds_11_6 {G : DG} {S : DS} {a : Nat} (h : dK S a = 12) (x : Option Nat) : dF G (sP S 1106 a x) a = .inr (11, (dfl_11 (fun g => dI S g a) (fun g => dP S g a)).set 6 (va_rf x)) := by rw [dF_11 (S := sP S 1106 a x) h]; simp [dfl_11, sP, fset, dP]
theorem ds_11_7 {G : DG} {S : DS} {a : Nat} (h : dK S a = 12) (x : Option Nat) : dF G (sP S 1107 a x) a = .inr (11, (dfl_11 (fun g => dI S g a) (fun g => dP S g a)).set 7 (va_rf x)) := by rw [dF_11 (S := sP S 1107 a x) h]; simp [dfl_11, sP, fset, dP]
theorem ds_11_8 {G : DG} {S : DS} {a : Nat} (h : dK S a = 12) (x : Int32) : dF G (sI S 1108 a x) a = .inr (11, (dfl_11 (fun g => dI S g a) (fun g => dP S g a)).set 8 (.int x)) := by rw [dF_11 (S := sI S 1108 a x) h]; simp [dfl_11, sI, fset, dI]
theorem ds_11_9 {G : DG} {S : DS} {a : Nat} (h : dK S a = 12) (x : Int32) : dF G (sI S 1109 a x) a = .inr (11, (dfl_11 (fun g => dI S g a) (fun g => dP S g a)).set 9 (.int x)) := by rw [dF_11 (S := sI S 1109 a x) h]; simp [dfl_11, sI, fset, dI]
theorem dw_11 {G : DG} : ∀ S : DS, dF G (sO S 12) (dn S) = .inr (11, [.null, .null, .null, .int 0, .null, .int 0, .null, .null, .int 0, .int 0]) := fun S => by rw [dF_11 (S := sO S 12) (va_up_self _ _ _)]; simp [dfl_11, sO, va_up_self, va_rf, dI, dP]
