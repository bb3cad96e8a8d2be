/-! the law as a machine: its name, its room, the links of its calls -/
abbrev mi_L_law : pm_Mi := (11, yL_law, cL_law, 9, some .boolean, { frames := 22, cells := 603072, slots := 7190633, locals := 10940 }, [])
theorem lk11_129 : Cond.methodLink (pm_R 11) 129 yL_addHouse ∈ pm_good := pm_tab (i := 392) (by decide +kernel) rfl
theorem lk11_134 : Cond.methodLink (pm_R 11) 134 yX10_addHouse ∈ pm_good := pm_tab (i := 1361) (by decide +kernel) rfl
theorem lk11_135 : Cond.methodLink (pm_R 11) 135 yX10_thrown ∈ pm_good := pm_tab (i := 1342) (by decide +kernel) rfl
theorem lk11_138 : Cond.methodLink (pm_R 11) 138 yL_addPerson ∈ pm_good := pm_tab (i := 516) (by decide +kernel) rfl
theorem lk11_141 : Cond.methodLink (pm_R 11) 141 yX10_addPerson ∈ pm_good := pm_tab (i := 1380) (by decide +kernel) rfl
theorem lk11_142 : Cond.methodLink (pm_R 11) 142 yL_addWalk ∈ pm_good := pm_tab (i := 569) (by decide +kernel) rfl
theorem lk11_145 : Cond.methodLink (pm_R 11) 145 yX10_addWalk ∈ pm_good := pm_tab (i := 1388) (by decide +kernel) rfl
theorem lk11_146 : Cond.methodLink (pm_R 11) 146 yL_walkOf ∈ pm_good := pm_tab (i := 602) (by decide +kernel) rfl
theorem lk11_148 : Cond.methodLink (pm_R 11) 148 yX10_walkOf ∈ pm_good := pm_tab (i := 1404) (by decide +kernel) rfl
theorem lk11_149 : Cond.methodLink (pm_R 11) 149 yL_stop ∈ pm_good := pm_tab (i := 610) (by decide +kernel) rfl
theorem lk11_151 : Cond.methodLink (pm_R 11) 151 yX10_stop ∈ pm_good := pm_tab (i := 1408) (by decide +kernel) rfl
theorem lk11_152 : Cond.methodLink (pm_R 11) 152 yL_stopIndex ∈ pm_good := pm_tab (i := 647) (by decide +kernel) rfl
theorem lk11_154 : Cond.methodLink (pm_R 11) 154 yX10_stopIndex ∈ pm_good := pm_tab (i := 1420) (by decide +kernel) rfl
theorem lk11_155 : Cond.methodLink (pm_R 11) 155 yL_redirectPerson ∈ pm_good := pm_tab (i := 656) (by decide +kernel) rfl
theorem lk11_158 : Cond.methodLink (pm_R 11) 158 yX10_redirectPerson ∈ pm_good := pm_tab (i := 1424) (by decide +kernel) rfl
theorem lk11_159 : Cond.methodLink (pm_R 11) 159 yL_redirectHouse ∈ pm_good := pm_tab (i := 697) (by decide +kernel) rfl
theorem lk11_161 : Cond.methodLink (pm_R 11) 161 yX10_redirectHouse ∈ pm_good := pm_tab (i := 1455) (by decide +kernel) rfl
theorem lk11_162 : Cond.methodLink (pm_R 11) 162 yL_dropRedirect ∈ pm_good := pm_tab (i := 726) (by decide +kernel) rfl
theorem lk11_164 : Cond.methodLink (pm_R 11) 164 yX10_dropRedirect ∈ pm_good := pm_tab (i := 1459) (by decide +kernel) rfl
theorem lk11_165 : Cond.methodLink (pm_R 11) 165 yL_way ∈ pm_good := pm_tab (i := 742) (by decide +kernel) rfl
theorem lk11_168 : Cond.methodLink (pm_R 11) 168 yX10_way ∈ pm_good := pm_tab (i := 1463) (by decide +kernel) rfl
theorem lk11_169 : Cond.methodLink (pm_R 11) 169 yL_hold ∈ pm_good := pm_tab (i := 768) (by decide +kernel) rfl
theorem lk11_171 : Cond.methodLink (pm_R 11) 171 yX10_hold ∈ pm_good := pm_tab (i := 1479) (by decide +kernel) rfl
theorem lk11_172 : Cond.methodLink (pm_R 11) 172 yL_allow ∈ pm_good := pm_tab (i := 776) (by decide +kernel) rfl
theorem lk11_175 : Cond.methodLink (pm_R 11) 175 yX10_allow ∈ pm_good := pm_tab (i := 1483) (by decide +kernel) rfl
theorem lk11_176 : Cond.methodLink (pm_R 11) 176 yL_setLimit ∈ pm_good := pm_tab (i := 793) (by decide +kernel) rfl
theorem lk11_178 : Cond.methodLink (pm_R 11) 178 yX10_setLimit ∈ pm_good := pm_tab (i := 1487) (by decide +kernel) rfl
theorem lk11_179 : Cond.methodLink (pm_R 11) 179 yL_leave ∈ pm_good := pm_tab (i := 801) (by decide +kernel) rfl
theorem lk11_181 : Cond.methodLink (pm_R 11) 181 yX10_leave ∈ pm_good := pm_tab (i := 1491) (by decide +kernel) rfl
theorem lk11_182 : Cond.methodLink (pm_R 11) 182 yL_signer ∈ pm_good := pm_tab (i := 817) (by decide +kernel) rfl
theorem lk11_184 : Cond.methodLink (pm_R 11) 184 yX10_signer ∈ pm_good := pm_tab (i := 1495) (by decide +kernel) rfl
theorem lk11_185 : Cond.methodLink (pm_R 11) 185 yL_residents ∈ pm_good := pm_tab (i := 836) (by decide +kernel) rfl
theorem lk11_187 : Cond.methodLink (pm_R 11) 187 yX10_residents ∈ pm_good := pm_tab (i := 1614) (by decide +kernel) rfl
theorem lk11_188 : Cond.methodLink (pm_R 11) 188 yL_addLetter ∈ pm_good := pm_tab (i := 847) (by decide +kernel) rfl
theorem lk11_190 : Cond.methodLink (pm_R 11) 190 yX10_addLetter ∈ pm_good := pm_tab (i := 1507) (by decide +kernel) rfl
theorem lk11_191 : Cond.methodLink (pm_R 11) 191 yL_append ∈ pm_good := pm_tab (i := 859) (by decide +kernel) rfl
theorem lk11_194 : Cond.methodLink (pm_R 11) 194 yX10_append ∈ pm_good := pm_tab (i := 1618) (by decide +kernel) rfl
theorem lk11_195 : Cond.methodLink (pm_R 11) 195 yL_arrive ∈ pm_good := pm_tab (i := 871) (by decide +kernel) rfl
theorem lk11_198 : Cond.methodLink (pm_R 11) 198 yX10_arrive ∈ pm_good := pm_tab (i := 1626) (by decide +kernel) rfl
theorem lk11_199 : Cond.methodLink (pm_R 11) 199 yX9_faultPosition ∈ pm_good := pm_tab (i := 338) (by decide +kernel) rfl
theorem lk11_202 : Cond.methodLink (pm_R 11) 202 yX10_faultPosition ∈ pm_good := pm_tab (i := 1622) (by decide +kernel) rfl
theorem lk11_203 : Cond.methodLink (pm_R 11) 203 yL_refusal ∈ pm_good := pm_tab (i := 915) (by decide +kernel) rfl
theorem lk11_205 : Cond.methodLink (pm_R 11) 205 yX10_refusal ∈ pm_good := pm_tab (i := 1518) (by decide +kernel) rfl
theorem lk11_206 : Cond.methodLink (pm_R 11) 206 yL_letter ∈ pm_good := pm_tab (i := 923) (by decide +kernel) rfl
theorem lk11_208 : Cond.methodLink (pm_R 11) 208 yX10_letter ∈ pm_good := pm_tab (i := 1522) (by decide +kernel) rfl
theorem lk11_209 : Cond.methodLink (pm_R 11) 209 yL_noteLength ∈ pm_good := pm_tab (i := 940) (by decide +kernel) rfl
theorem lk11_211 : Cond.methodLink (pm_R 11) 211 yX10_noteLength ∈ pm_good := pm_tab (i := 1594) (by decide +kernel) rfl
theorem lk11_212 : Cond.methodLink (pm_R 11) 212 yL_note ∈ pm_good := pm_tab (i := 1117) (by decide +kernel) rfl
theorem lk11_214 : Cond.methodLink (pm_R 11) 214 yX10_note ∈ pm_good := pm_tab (i := 1610) (by decide +kernel) rfl
theorem lk11_215 : Cond.methodLink (pm_R 11) 215 yL_delivered ∈ pm_good := pm_tab (i := 1137) (by decide +kernel) rfl
theorem lk11_217 : Cond.methodLink (pm_R 11) 217 yX10_delivered ∈ pm_good := pm_tab (i := 1530) (by decide +kernel) rfl
theorem lk11_218 : Cond.methodLink (pm_R 11) 218 yL_daysLeft ∈ pm_good := pm_tab (i := 1145) (by decide +kernel) rfl
theorem lk11_220 : Cond.methodLink (pm_R 11) 220 yX10_daysLeft ∈ pm_good := pm_tab (i := 1566) (by decide +kernel) rfl
theorem lk11_221 : Cond.methodLink (pm_R 11) 221 yL_pass ∈ pm_good := pm_tab (i := 1167) (by decide +kernel) rfl
theorem lk11_223 : Cond.methodLink (pm_R 11) 223 yX10_pass ∈ pm_good := pm_tab (i := 1534) (by decide +kernel) rfl
theorem lk11_224 : Cond.methodLink (pm_R 11) 224 yX9_today ∈ pm_good := pm_tab (i := 342) (by decide +kernel) rfl
theorem lk11_227 : Cond.methodLink (pm_R 11) 227 yX10_today ∈ pm_good := pm_tab (i := 1570) (by decide +kernel) rfl
theorem lk11_228 : Cond.methodLink (pm_R 11) 228 yL_account ∈ pm_good := pm_tab (i := 1203) (by decide +kernel) rfl
theorem lk11_230 : Cond.methodLink (pm_R 11) 230 yX10_account ∈ pm_good := pm_tab (i := 1574) (by decide +kernel) rfl
theorem lk11_231 : Cond.methodLink (pm_R 11) 231 yL_returned ∈ pm_good := pm_tab (i := 1223) (by decide +kernel) rfl
theorem lk11_233 : Cond.methodLink (pm_R 11) 233 yX10_returned ∈ pm_good := pm_tab (i := 1586) (by decide +kernel) rfl
theorem lk11_234 : Cond.methodLink (pm_R 11) 234 yL_meanDays ∈ pm_good := pm_tab (i := 1235) (by decide +kernel) rfl
theorem lk11_237 : Cond.methodLink (pm_R 11) 237 yX10_meanDays ∈ pm_good := pm_tab (i := 1590) (by decide +kernel) rfl
theorem lk11_238 : Cond.methodLink (pm_R 11) 238 yL_undo ∈ pm_good := pm_tab (i := 1263) (by decide +kernel) rfl
theorem lk11_240 : Cond.methodLink (pm_R 11) 240 yX10_undo ∈ pm_good := pm_tab (i := 1346) (by decide +kernel) rfl
theorem lk11_241 : Cond.methodLink (pm_R 11) 241 yX9_save ∈ pm_good := pm_tab (i := 346) (by decide +kernel) rfl
theorem lk11_244 : Cond.methodLink (pm_R 11) 244 yX10_save ∈ pm_good := pm_tab (i := 1353) (by decide +kernel) rfl
theorem lk11_245 : Cond.methodLink (pm_R 11) 245 yL_restore ∈ pm_good := pm_tab (i := 1275) (by decide +kernel) rfl
theorem lk11_248 : Cond.methodLink (pm_R 11) 248 yX10_restore ∈ pm_good := pm_tab (i := 1357) (by decide +kernel) rfl
example : pm_fit mi_L_law mi_L_addHouse 600000 7000000 = true := by decide
example : pm_fit mi_L_law mi_L_addPerson 600000 7000000 = true := by decide
example : pm_fit mi_L_law mi_L_addWalk 600000 7000000 = true := by decide
example : pm_fit mi_L_law mi_L_walkOf 600000 7000000 = true := by decide
example : pm_fit mi_L_law mi_L_stop 600000 7000000 = true := by decide
example : pm_fit mi_L_law mi_L_stopIndex 600000 7000000 = true := by decide
example : pm_fit mi_L_law mi_L_redirectPerson 600000 7000000 = true := by decide
example : pm_fit mi_L_law mi_L_redirectHouse 600000 7000000 = true := by decide
example : pm_fit mi_L_law mi_L_dropRedirect 600000 7000000 = true := by decide
example : pm_fit mi_L_law mi_L_way 600000 7000000 = true := by decide
example : pm_fit mi_L_law mi_L_hold 600000 7000000 = true := by decide
example : pm_fit mi_L_law mi_L_allow 600000 7000000 = true := by decide
example : pm_fit mi_L_law mi_L_setLimit 600000 7000000 = true := by decide
example : pm_fit mi_L_law mi_L_leave 600000 7000000 = true := by decide
example : pm_fit mi_L_law mi_L_signer 600000 7000000 = true := by decide
example : pm_fit mi_L_law mi_L_residents 600000 7000000 = true := by decide
example : pm_fit mi_L_law mi_L_addLetter 600000 7000000 = true := by decide
example : pm_fit mi_L_law mi_L_append 600000 7000000 = true := by decide
example : pm_fit mi_L_law mi_L_arrive 600000 7000000 = true := by decide
example : pm_fit mi_L_law mi_L_refusal 600000 7000000 = true := by decide
example : pm_fit mi_L_law mi_L_letter 600000 7000000 = true := by decide
example : pm_fit mi_L_law mi_L_delivered 600000 7000000 = true := by decide
example : pm_fit mi_L_law mi_L_daysLeft 600000 7000000 = true := by decide
example : pm_fit mi_L_law mi_L_pass 600000 7000000 = true := by decide
example : pm_fit mi_L_law mi_L_account 600000 7000000 = true := by decide
example : pm_fit mi_L_law mi_L_returned 600000 7000000 = true := by decide
example : pm_fit mi_L_law mi_L_meanDays 600000 7000000 = true := by decide
example : pm_fit mi_L_law mi_L_undo 600000 7000000 = true := by decide
example : pm_fit mi_L_law mi_L_restore 600000 7000000 = true := by decide
section PMDS
variable {mi : pm_Mi} {T : pm_Tg} {kc ks pc : Nat} {lo : List (Option Value)} {st : List Value} {μ : pm_Mm}
/-- the loop's room is made even -/
theorem pm_V.even {kc' ks' : Nat} (h1 : kc ≤ kc') (h2 : ks ≤ ks') (k : pm_V mi T kc' ks' pc lo st μ) : pm_V mi T kc ks pc lo st μ := k.grow h1 h2
end PMDS
