/-! the law's own code -/
theorem ck_l0 : (((jMth jLaw).1.drop 0).take 40).all (fun x => jLkOk jLaw x && jDcOk jLaw x) = true := by decide +kernel
theorem ck_l1 : (((jMth jLaw).1.drop 40).take 40).all (fun x => jLkOk jLaw x && jDcOk jLaw x) = true := by decide +kernel
theorem ck_l2 : (((jMth jLaw).1.drop 80).take 40).all (fun x => jLkOk jLaw x && jDcOk jLaw x) = true := by decide +kernel
theorem ck_l3 : (((jMth jLaw).1.drop 120).take 40).all (fun x => jLkOk jLaw x && jDcOk jLaw x) = true := by decide +kernel
theorem ck_l4 : (((jMth jLaw).1.drop 160).take 40).all (fun x => jLkOk jLaw x && jDcOk jLaw x) = true := by decide +kernel
theorem ck_l5 : (((jMth jLaw).1.drop 200).take 40).all (fun x => jLkOk jLaw x && jDcOk jLaw x) = true := by decide +kernel
theorem ck_l6 : (((jMth jLaw).1.drop 240).take 40).all (fun x => jLkOk jLaw x && jDcOk jLaw x) = true := by decide +kernel
theorem ck_l7 : (((jMth jLaw).1.drop 280).take 40).all (fun x => jLkOk jLaw x && jDcOk jLaw x) = true := by decide +kernel
theorem ck_l8 : (((jMth jLaw).1.drop 320).take 40).all (fun x => jLkOk jLaw x && jDcOk jLaw x) = true := by decide +kernel
theorem ck_l9 : (((jMth jLaw).1.drop 360).take 40).all (fun x => jLkOk jLaw x && jDcOk jLaw x) = true := by decide +kernel
theorem ck_l10 : (((jMth jLaw).1.drop 400).take 40).all (fun x => jLkOk jLaw x && jDcOk jLaw x) = true := by decide +kernel
theorem ck_l11 : (((jMth jLaw).1.drop 440).take 40).all (fun x => jLkOk jLaw x && jDcOk jLaw x) = true := by decide +kernel
theorem ck_l12 : (((jMth jLaw).1.drop 480).take 40).all (fun x => jLkOk jLaw x && jDcOk jLaw x) = true := by decide +kernel
theorem ck_l13 : (((jMth jLaw).1.drop 520).take 40).all (fun x => jLkOk jLaw x && jDcOk jLaw x) = true := by decide +kernel
theorem ck_l14 : (((jMth jLaw).1.drop 560).take 40).all (fun x => jLkOk jLaw x && jDcOk jLaw x) = true := by decide +kernel
theorem ck_l15 : (((jMth jLaw).1.drop 600).take 40).all (fun x => jLkOk jLaw x && jDcOk jLaw x) = true := by decide +kernel
theorem ck_l16 : (((jMth jLaw).1.drop 640).take 40).all (fun x => jLkOk jLaw x && jDcOk jLaw x) = true := by decide +kernel
theorem ck_l17 : (((jMth jLaw).1.drop 680).take 40).all (fun x => jLkOk jLaw x && jDcOk jLaw x) = true := by decide +kernel
theorem ck_l18 : (((jMth jLaw).1.drop 720).take 40).all (fun x => jLkOk jLaw x && jDcOk jLaw x) = true := by decide +kernel
theorem ck_l19 : (((jMth jLaw).1.drop 760).take 40).all (fun x => jLkOk jLaw x && jDcOk jLaw x) = true := by decide +kernel
theorem ck_l20 : (((jMth jLaw).1.drop 800).take 40).all (fun x => jLkOk jLaw x && jDcOk jLaw x) = true := by decide +kernel
theorem ck_l21 : (((jMth jLaw).1.drop 840).take 40).all (fun x => jLkOk jLaw x && jDcOk jLaw x) = true := by decide +kernel
theorem ck_l22 : (((jMth jLaw).1.drop 880).take 40).all (fun x => jLkOk jLaw x && jDcOk jLaw x) = true := by decide +kernel
theorem ck_ln : jNxOk (jMth jLaw).1 = true := by decide +kernel
