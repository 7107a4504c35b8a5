/-! the law's code is the method's, by pieces -/
theorem k_L_law_90 : q_L_law_90.all (fun z => mw_chkI yL_law cL_law z.1 z.2) = true := by decide +kernel
theorem k_L_law_91 : q_L_law_91.all (fun z => mw_chkI yL_law cL_law z.1 z.2) = true := by decide +kernel
theorem k_L_law_92 : q_L_law_92.all (fun z => mw_chkI yL_law cL_law z.1 z.2) = true := by decide +kernel
theorem k_L_law_93 : q_L_law_93.all (fun z => mw_chkI yL_law cL_law z.1 z.2) = true := by decide +kernel
theorem k_L_law_94 : q_L_law_94.all (fun z => mw_chkI yL_law cL_law z.1 z.2) = true := by decide +kernel
theorem k_L_law_95 : q_L_law_95.all (fun z => mw_chkI yL_law cL_law z.1 z.2) = true := by decide +kernel
theorem k_L_law_96 : q_L_law_96.all (fun z => mw_chkI yL_law cL_law z.1 z.2) = true := by decide +kernel
theorem k_L_law_97 : q_L_law_97.all (fun z => mw_chkI yL_law cL_law z.1 z.2) = true := by decide +kernel
theorem k_L_law_98 : q_L_law_98.all (fun z => mw_chkI yL_law cL_law z.1 z.2) = true := by decide +kernel
theorem k_L_law_99 : q_L_law_99.all (fun z => mw_chkI yL_law cL_law z.1 z.2) = true := by decide +kernel
theorem k_L_law_100 : q_L_law_100.all (fun z => mw_chkI yL_law cL_law z.1 z.2) = true := by decide +kernel
theorem k_L_law_101 : q_L_law_101.all (fun z => mw_chkI yL_law cL_law z.1 z.2) = true := by decide +kernel
theorem k_L_law_102 : q_L_law_102.all (fun z => mw_chkI yL_law cL_law z.1 z.2) = true := by decide +kernel
theorem k_L_law_103 : q_L_law_103.all (fun z => mw_chkI yL_law cL_law z.1 z.2) = true := by decide +kernel
