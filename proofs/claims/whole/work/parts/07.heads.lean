/-! ===== HEADS: rooms, descriptors ===== -/
def rm_X0_record : Room := { frames := 3, cells := 0, slots := 0, locals := 68 }
theorem hy_X0_record : yX0_record.cls = RX0 ∧ yX0_record.cls ≠ "java/lang/invoke/MethodHandle" ∧ yX0_record.cls ≠ "java/lang/invoke/VarHandle" ∧ (parseMethodDescriptor yX0_record.desc).map (fun d => d.parameters.length) = some 1 := by decide +kernel
theorem hp_X0_record : plainName yX0_record.cls = true := by decide +kernel
def rm_X0_restoreTo : Room := { frames := 3, cells := 0, slots := 0, locals := 68 }
theorem hy_X0_restoreTo : yX0_restoreTo.cls = RX0 ∧ yX0_restoreTo.cls ≠ "java/lang/invoke/MethodHandle" ∧ yX0_restoreTo.cls ≠ "java/lang/invoke/VarHandle" ∧ (parseMethodDescriptor yX0_restoreTo.desc).map (fun d => d.parameters.length) = some 1 := by decide +kernel
theorem hp_X0_restoreTo : plainName yX0_restoreTo.cls = true := by decide +kernel
def rm_X0_stateAt : Room := { frames := 0, cells := 0, slots := 0, locals := 0 }
theorem hy_X0_stateAt : yX0_stateAt.cls = RX0 ∧ yX0_stateAt.cls ≠ "java/lang/invoke/MethodHandle" ∧ yX0_stateAt.cls ≠ "java/lang/invoke/VarHandle" ∧ (parseMethodDescriptor yX0_stateAt.desc).map (fun d => d.parameters.length) = some 1 := by decide +kernel
theorem hp_X0_stateAt : plainName yX0_stateAt.cls = true := by decide +kernel
def rm_X1_copyFrom : Room := { frames := 1, cells := 0, slots := 0, locals := 26 }
theorem hy_X1_copyFrom : yX1_copyFrom.cls = RX1 ∧ yX1_copyFrom.cls ≠ "java/lang/invoke/MethodHandle" ∧ yX1_copyFrom.cls ≠ "java/lang/invoke/VarHandle" ∧ (parseMethodDescriptor yX1_copyFrom.desc).map (fun d => d.parameters.length) = some 1 := by decide +kernel
theorem hp_X1_copyFrom : plainName yX1_copyFrom.cls = true := by decide +kernel
def rm_X1_forget : Room := { frames := 1, cells := 0, slots := 0, locals := 23 }
theorem hy_X1_forget : yX1_forget.cls = RX1 ∧ yX1_forget.cls ≠ "java/lang/invoke/MethodHandle" ∧ yX1_forget.cls ≠ "java/lang/invoke/VarHandle" ∧ (parseMethodDescriptor yX1_forget.desc).map (fun d => d.parameters.length) = some 1 := by decide +kernel
theorem hp_X1_forget : plainName yX1_forget.cls = true := by decide +kernel
def rm_X1_forgetAllFor : Room := { frames := 2, cells := 0, slots := 0, locals := 44 }
theorem hy_X1_forgetAllFor : yX1_forgetAllFor.cls = RX1 ∧ yX1_forgetAllFor.cls ≠ "java/lang/invoke/MethodHandle" ∧ yX1_forgetAllFor.cls ≠ "java/lang/invoke/VarHandle" ∧ (parseMethodDescriptor yX1_forgetAllFor.desc).map (fun d => d.parameters.length) = some 1 := by decide +kernel
theorem hp_X1_forgetAllFor : plainName yX1_forgetAllFor.cls = true := by decide +kernel
def rm_X1_guess : Room := { frames := 0, cells := 0, slots := 0, locals := 0 }
theorem hy_X1_guess : yX1_guess.cls = RX1 ∧ yX1_guess.cls ≠ "java/lang/invoke/MethodHandle" ∧ yX1_guess.cls ≠ "java/lang/invoke/VarHandle" ∧ (parseMethodDescriptor yX1_guess.desc).map (fun d => d.parameters.length) = some 1 := by decide +kernel
theorem hp_X1_guess : plainName yX1_guess.cls = true := by decide +kernel
def rm_X1_heightOf : Room := { frames := 1, cells := 0, slots := 0, locals := 23 }
theorem hy_X1_heightOf : yX1_heightOf.cls = RX1 ∧ yX1_heightOf.cls ≠ "java/lang/invoke/MethodHandle" ∧ yX1_heightOf.cls ≠ "java/lang/invoke/VarHandle" ∧ (parseMethodDescriptor yX1_heightOf.desc).map (fun d => d.parameters.length) = some 1 := by decide +kernel
theorem hp_X1_heightOf : plainName yX1_heightOf.cls = true := by decide +kernel
def rm_X1_insert : Room := { frames := 1, cells := 0, slots := 0, locals := 26 }
theorem hy_X1_insert : yX1_insert.cls = RX1 ∧ yX1_insert.cls ≠ "java/lang/invoke/MethodHandle" ∧ yX1_insert.cls ≠ "java/lang/invoke/VarHandle" ∧ (parseMethodDescriptor yX1_insert.desc).map (fun d => d.parameters.length) = some 3 := by decide +kernel
theorem hp_X1_insert : plainName yX1_insert.cls = true := by decide +kernel
def rm_X1_isKind : Room := { frames := 0, cells := 0, slots := 0, locals := 0 }
theorem hy_X1_isKind : yX1_isKind.cls = RX1 ∧ yX1_isKind.cls ≠ "java/lang/invoke/MethodHandle" ∧ yX1_isKind.cls ≠ "java/lang/invoke/VarHandle" ∧ (parseMethodDescriptor yX1_isKind.desc).map (fun d => d.parameters.length) = some 1 := by decide +kernel
theorem hp_X1_isKind : plainName yX1_isKind.cls = true := by decide +kernel
def rm_X1_isLine : Room := { frames := 0, cells := 0, slots := 0, locals := 0 }
theorem hy_X1_isLine : yX1_isLine.cls = RX1 ∧ yX1_isLine.cls ≠ "java/lang/invoke/MethodHandle" ∧ yX1_isLine.cls ≠ "java/lang/invoke/VarHandle" ∧ (parseMethodDescriptor yX1_isLine.desc).map (fun d => d.parameters.length) = some 1 := by decide +kernel
theorem hp_X1_isLine : plainName yX1_isLine.cls = true := by decide +kernel
def rm_X1_lineAt : Room := { frames := 2, cells := 0, slots := 0, locals := 44 }
theorem hy_X1_lineAt : yX1_lineAt.cls = RX1 ∧ yX1_lineAt.cls ≠ "java/lang/invoke/MethodHandle" ∧ yX1_lineAt.cls ≠ "java/lang/invoke/VarHandle" ∧ (parseMethodDescriptor yX1_lineAt.desc).map (fun d => d.parameters.length) = some 1 := by decide +kernel
theorem hp_X1_lineAt : plainName yX1_lineAt.cls = true := by decide +kernel
def rm_X1_measure : Room := { frames := 1, cells := 0, slots := 0, locals := 23 }
theorem hy_X1_measure : yX1_measure.cls = RX1 ∧ yX1_measure.cls ≠ "java/lang/invoke/MethodHandle" ∧ yX1_measure.cls ≠ "java/lang/invoke/VarHandle" ∧ (parseMethodDescriptor yX1_measure.desc).map (fun d => d.parameters.length) = some 1 := by decide +kernel
theorem hp_X1_measure : plainName yX1_measure.cls = true := by decide +kernel
def rm_X1_measuredLines : Room := { frames := 0, cells := 0, slots := 0, locals := 0 }
theorem hy_X1_measuredLines : yX1_measuredLines.cls = RX1 ∧ yX1_measuredLines.cls ≠ "java/lang/invoke/MethodHandle" ∧ yX1_measuredLines.cls ≠ "java/lang/invoke/VarHandle" ∧ (parseMethodDescriptor yX1_measuredLines.desc).map (fun d => d.parameters.length) = some 0 := by decide +kernel
theorem hp_X1_measuredLines : plainName yX1_measuredLines.cls = true := by decide +kernel
def rm_X1_remove : Room := { frames := 2, cells := 0, slots := 0, locals := 44 }
theorem hy_X1_remove : yX1_remove.cls = RX1 ∧ yX1_remove.cls ≠ "java/lang/invoke/MethodHandle" ∧ yX1_remove.cls ≠ "java/lang/invoke/VarHandle" ∧ (parseMethodDescriptor yX1_remove.desc).map (fun d => d.parameters.length) = some 1 := by decide +kernel
theorem hp_X1_remove : plainName yX1_remove.cls = true := by decide +kernel
def rm_X1_setLength : Room := { frames := 2, cells := 0, slots := 0, locals := 44 }
theorem hy_X1_setLength : yX1_setLength.cls = RX1 ∧ yX1_setLength.cls ≠ "java/lang/invoke/MethodHandle" ∧ yX1_setLength.cls ≠ "java/lang/invoke/VarHandle" ∧ (parseMethodDescriptor yX1_setLength.desc).map (fun d => d.parameters.length) = some 2 := by decide +kernel
theorem hp_X1_setLength : plainName yX1_setLength.cls = true := by decide +kernel
def rm_X1_topOf : Room := { frames := 2, cells := 0, slots := 0, locals := 44 }
theorem hy_X1_topOf : yX1_topOf.cls = RX1 ∧ yX1_topOf.cls ≠ "java/lang/invoke/MethodHandle" ∧ yX1_topOf.cls ≠ "java/lang/invoke/VarHandle" ∧ (parseMethodDescriptor yX1_topOf.desc).map (fun d => d.parameters.length) = some 1 := by decide +kernel
theorem hp_X1_topOf : plainName yX1_topOf.cls = true := by decide +kernel
def rm_X1_total : Room := { frames := 3, cells := 0, slots := 0, locals := 67 }
theorem hy_X1_total : yX1_total.cls = RX1 ∧ yX1_total.cls ≠ "java/lang/invoke/MethodHandle" ∧ yX1_total.cls ≠ "java/lang/invoke/VarHandle" ∧ (parseMethodDescriptor yX1_total.desc).map (fun d => d.parameters.length) = some 0 := by decide +kernel
theorem hp_X1_total : plainName yX1_total.cls = true := by decide +kernel
def rm_X1_trueHeight : Room := { frames := 0, cells := 0, slots := 0, locals := 0 }
theorem hy_X1_trueHeight : yX1_trueHeight.cls = RX1 ∧ yX1_trueHeight.cls ≠ "java/lang/invoke/MethodHandle" ∧ yX1_trueHeight.cls ≠ "java/lang/invoke/VarHandle" ∧ (parseMethodDescriptor yX1_trueHeight.desc).map (fun d => d.parameters.length) = some 2 := by decide +kernel
theorem hp_X1_trueHeight : plainName yX1_trueHeight.cls = true := by decide +kernel
def rm_X1_trueHeightOf : Room := { frames := 1, cells := 0, slots := 0, locals := 23 }
theorem hy_X1_trueHeightOf : yX1_trueHeightOf.cls = RX1 ∧ yX1_trueHeightOf.cls ≠ "java/lang/invoke/MethodHandle" ∧ yX1_trueHeightOf.cls ≠ "java/lang/invoke/VarHandle" ∧ (parseMethodDescriptor yX1_trueHeightOf.desc).map (fun d => d.parameters.length) = some 1 := by decide +kernel
theorem hp_X1_trueHeightOf : plainName yX1_trueHeightOf.cls = true := by decide +kernel
def rm_X2_add : Room := { frames := 0, cells := 0, slots := 0, locals := 0 }
theorem hy_X2_add : yX2_add.cls = RX2 ∧ yX2_add.cls ≠ "java/lang/invoke/MethodHandle" ∧ yX2_add.cls ≠ "java/lang/invoke/VarHandle" ∧ (parseMethodDescriptor yX2_add.desc).map (fun d => d.parameters.length) = some 1 := by decide +kernel
theorem hp_X2_add : plainName yX2_add.cls = true := by decide +kernel
def rm_X2_clear : Room := { frames := 0, cells := 0, slots := 0, locals := 0 }
theorem hy_X2_clear : yX2_clear.cls = RX2 ∧ yX2_clear.cls ≠ "java/lang/invoke/MethodHandle" ∧ yX2_clear.cls ≠ "java/lang/invoke/VarHandle" ∧ (parseMethodDescriptor yX2_clear.desc).map (fun d => d.parameters.length) = some 0 := by decide +kernel
theorem hp_X2_clear : plainName yX2_clear.cls = true := by decide +kernel
def rm_X2_commandOfToken : Room := { frames := 6, cells := 0, slots := 0, locals := 152 }
theorem hy_X2_commandOfToken : yX2_commandOfToken.cls = RX2 ∧ yX2_commandOfToken.cls ≠ "java/lang/invoke/MethodHandle" ∧ yX2_commandOfToken.cls ≠ "java/lang/invoke/VarHandle" ∧ (parseMethodDescriptor yX2_commandOfToken.desc).map (fun d => d.parameters.length) = some 0 := by decide +kernel
theorem hp_X2_commandOfToken : plainName yX2_commandOfToken.cls = true := by decide +kernel
def rm_X2_isDigit : Room := { frames := 0, cells := 0, slots := 0, locals := 0 }
theorem hy_X2_isDigit : yX2_isDigit.cls ≠ "java/lang/invoke/MethodHandle" ∧ yX2_isDigit.cls ≠ "java/lang/invoke/VarHandle" ∧ (parseMethodDescriptor yX2_isDigit.desc).map (fun d => d.parameters.length) = some 1 := by decide +kernel
theorem hp_X2_isDigit : plainName yX2_isDigit.cls = true := by decide +kernel
def rm_X2_isLetter : Room := { frames := 0, cells := 0, slots := 0, locals := 0 }
theorem hy_X2_isLetter : yX2_isLetter.cls ≠ "java/lang/invoke/MethodHandle" ∧ yX2_isLetter.cls ≠ "java/lang/invoke/VarHandle" ∧ (parseMethodDescriptor yX2_isLetter.desc).map (fun d => d.parameters.length) = some 1 := by decide +kernel
theorem hp_X2_isLetter : plainName yX2_isLetter.cls = true := by decide +kernel
def rm_X2_number : Room := { frames := 0, cells := 0, slots := 0, locals := 0 }
theorem hy_X2_number : yX2_number.cls = RX2 ∧ yX2_number.cls ≠ "java/lang/invoke/MethodHandle" ∧ yX2_number.cls ≠ "java/lang/invoke/VarHandle" ∧ (parseMethodDescriptor yX2_number.desc).map (fun d => d.parameters.length) = some 1 := by decide +kernel
theorem hp_X2_number : plainName yX2_number.cls = true := by decide +kernel
def rm_X2_numberOfToken : Room := { frames := 1, cells := 0, slots := 0, locals := 21 }
theorem hy_X2_numberOfToken : yX2_numberOfToken.cls = RX2 ∧ yX2_numberOfToken.cls ≠ "java/lang/invoke/MethodHandle" ∧ yX2_numberOfToken.cls ≠ "java/lang/invoke/VarHandle" ∧ (parseMethodDescriptor yX2_numberOfToken.desc).map (fun d => d.parameters.length) = some 0 := by decide +kernel
theorem hp_X2_numberOfToken : plainName yX2_numberOfToken.cls = true := by decide +kernel
def rm_X2_readCommand : Room := { frames := 7, cells := 0, slots := 0, locals := 173 }
theorem hy_X2_readCommand : yX2_readCommand.cls = RX2 ∧ yX2_readCommand.cls ≠ "java/lang/invoke/MethodHandle" ∧ yX2_readCommand.cls ≠ "java/lang/invoke/VarHandle" ∧ (parseMethodDescriptor yX2_readCommand.desc).map (fun d => d.parameters.length) = some 0 := by decide +kernel
theorem hp_X2_readCommand : plainName yX2_readCommand.cls = true := by decide +kernel
def rm_X2_readToken : Room := { frames := 1, cells := 0, slots := 0, locals := 21 }
theorem hy_X2_readToken : yX2_readToken.cls = RX2 ∧ yX2_readToken.cls ≠ "java/lang/invoke/MethodHandle" ∧ yX2_readToken.cls ≠ "java/lang/invoke/VarHandle" ∧ (parseMethodDescriptor yX2_readToken.desc).map (fun d => d.parameters.length) = some 0 := by decide +kernel
theorem hp_X2_readToken : plainName yX2_readToken.cls = true := by decide +kernel
def rm_X2_rewind : Room := { frames := 0, cells := 0, slots := 0, locals := 0 }
theorem hy_X2_rewind : yX2_rewind.cls = RX2 ∧ yX2_rewind.cls ≠ "java/lang/invoke/MethodHandle" ∧ yX2_rewind.cls ≠ "java/lang/invoke/VarHandle" ∧ (parseMethodDescriptor yX2_rewind.desc).map (fun d => d.parameters.length) = some 0 := by decide +kernel
theorem hp_X2_rewind : plainName yX2_rewind.cls = true := by decide +kernel
def rm_X2_signAt : Room := { frames := 0, cells := 0, slots := 0, locals := 0 }
theorem hy_X2_signAt : yX2_signAt.cls = RX2 ∧ yX2_signAt.cls ≠ "java/lang/invoke/MethodHandle" ∧ yX2_signAt.cls ≠ "java/lang/invoke/VarHandle" ∧ (parseMethodDescriptor yX2_signAt.desc).map (fun d => d.parameters.length) = some 1 := by decide +kernel
theorem hp_X2_signAt : plainName yX2_signAt.cls = true := by decide +kernel
def rm_X2_tokenIs : Room := { frames := 5, cells := 0, slots := 0, locals := 130 }
theorem hy_X2_tokenIs : yX2_tokenIs.cls = RX2 ∧ yX2_tokenIs.cls ≠ "java/lang/invoke/MethodHandle" ∧ yX2_tokenIs.cls ≠ "java/lang/invoke/VarHandle" ∧ (parseMethodDescriptor yX2_tokenIs.desc).map (fun d => d.parameters.length) = some 1 := by decide +kernel
theorem hp_X2_tokenIs : plainName yX2_tokenIs.cls = true := by decide +kernel
def rm_X2_wordOf : Room := { frames := 0, cells := 0, slots := 0, locals := 0 }
theorem hy_X2_wordOf : yX2_wordOf.cls ≠ "java/lang/invoke/MethodHandle" ∧ yX2_wordOf.cls ≠ "java/lang/invoke/VarHandle" ∧ (parseMethodDescriptor yX2_wordOf.desc).map (fun d => d.parameters.length) = some 1 := by decide +kernel
theorem hp_X2_wordOf : plainName yX2_wordOf.cls = true := by decide +kernel
def rm_X3_changeHeight : Room := { frames := 4, cells := 0, slots := 0, locals := 87 }
theorem hy_X3_changeHeight : yX3_changeHeight.cls = RX3 ∧ yX3_changeHeight.cls ≠ "java/lang/invoke/MethodHandle" ∧ yX3_changeHeight.cls ≠ "java/lang/invoke/VarHandle" ∧ (parseMethodDescriptor yX3_changeHeight.desc).map (fun d => d.parameters.length) = some 1 := by decide +kernel
theorem hp_X3_changeHeight : plainName yX3_changeHeight.cls = true := by decide +kernel
def rm_X3_changeLength : Room := { frames := 4, cells := 0, slots := 0, locals := 87 }
theorem hy_X3_changeLength : yX3_changeLength.cls = RX3 ∧ yX3_changeLength.cls ≠ "java/lang/invoke/MethodHandle" ∧ yX3_changeLength.cls ≠ "java/lang/invoke/VarHandle" ∧ (parseMethodDescriptor yX3_changeLength.desc).map (fun d => d.parameters.length) = some 2 := by decide +kernel
theorem hp_X3_changeLength : plainName yX3_changeLength.cls = true := by decide +kernel
def rm_X3_changeWidth : Room := { frames := 4, cells := 0, slots := 0, locals := 87 }
theorem hy_X3_changeWidth : yX3_changeWidth.cls = RX3 ∧ yX3_changeWidth.cls ≠ "java/lang/invoke/MethodHandle" ∧ yX3_changeWidth.cls ≠ "java/lang/invoke/VarHandle" ∧ (parseMethodDescriptor yX3_changeWidth.desc).map (fun d => d.parameters.length) = some 1 := by decide +kernel
theorem hp_X3_changeWidth : plainName yX3_changeWidth.cls = true := by decide +kernel
def rm_X3_climb : Room := { frames := 2, cells := 0, slots := 0, locals := 44 }
theorem hy_X3_climb : yX3_climb.cls = RX3 ∧ yX3_climb.cls ≠ "java/lang/invoke/MethodHandle" ∧ yX3_climb.cls ≠ "java/lang/invoke/VarHandle" ∧ (parseMethodDescriptor yX3_climb.desc).map (fun d => d.parameters.length) = some 0 := by decide +kernel
theorem hp_X3_climb : plainName yX3_climb.cls = true := by decide +kernel
def rm_X3_copyFrom : Room := { frames := 2, cells := 0, slots := 0, locals := 47 }
theorem hy_X3_copyFrom : yX3_copyFrom.cls = RX3 ∧ yX3_copyFrom.cls ≠ "java/lang/invoke/MethodHandle" ∧ yX3_copyFrom.cls ≠ "java/lang/invoke/VarHandle" ∧ (parseMethodDescriptor yX3_copyFrom.desc).map (fun d => d.parameters.length) = some 1 := by decide +kernel
theorem hp_X3_copyFrom : plainName yX3_copyFrom.cls = true := by decide +kernel
def rm_X3_descend : Room := { frames := 2, cells := 0, slots := 0, locals := 44 }
theorem hy_X3_descend : yX3_descend.cls = RX3 ∧ yX3_descend.cls ≠ "java/lang/invoke/MethodHandle" ∧ yX3_descend.cls ≠ "java/lang/invoke/VarHandle" ∧ (parseMethodDescriptor yX3_descend.desc).map (fun d => d.parameters.length) = some 0 := by decide +kernel
theorem hp_X3_descend : plainName yX3_descend.cls = true := by decide +kernel
def rm_X3_linesShown : Room := { frames := 2, cells := 0, slots := 0, locals := 44 }
theorem hy_X3_linesShown : yX3_linesShown.cls = RX3 ∧ yX3_linesShown.cls ≠ "java/lang/invoke/MethodHandle" ∧ yX3_linesShown.cls ≠ "java/lang/invoke/VarHandle" ∧ (parseMethodDescriptor yX3_linesShown.desc).map (fun d => d.parameters.length) = some 0 := by decide +kernel
theorem hp_X3_linesShown : plainName yX3_linesShown.cls = true := by decide +kernel
def rm_X3_moveBy : Room := { frames := 4, cells := 0, slots := 0, locals := 87 }
theorem hy_X3_moveBy : yX3_moveBy.cls = RX3 ∧ yX3_moveBy.cls ≠ "java/lang/invoke/MethodHandle" ∧ yX3_moveBy.cls ≠ "java/lang/invoke/VarHandle" ∧ (parseMethodDescriptor yX3_moveBy.desc).map (fun d => d.parameters.length) = some 1 := by decide +kernel
theorem hp_X3_moveBy : plainName yX3_moveBy.cls = true := by decide +kernel
def rm_X3_moveToLine : Room := { frames := 4, cells := 0, slots := 0, locals := 87 }
theorem hy_X3_moveToLine : yX3_moveToLine.cls = RX3 ∧ yX3_moveToLine.cls ≠ "java/lang/invoke/MethodHandle" ∧ yX3_moveToLine.cls ≠ "java/lang/invoke/VarHandle" ∧ (parseMethodDescriptor yX3_moveToLine.desc).map (fun d => d.parameters.length) = some 1 := by decide +kernel
theorem hp_X3_moveToLine : plainName yX3_moveToLine.cls = true := by decide +kernel
def rm_X3_moveToShare : Room := { frames := 4, cells := 0, slots := 0, locals := 87 }
theorem hy_X3_moveToShare : yX3_moveToShare.cls = RX3 ∧ yX3_moveToShare.cls ≠ "java/lang/invoke/MethodHandle" ∧ yX3_moveToShare.cls ≠ "java/lang/invoke/VarHandle" ∧ (parseMethodDescriptor yX3_moveToShare.desc).map (fun d => d.parameters.length) = some 1 := by decide +kernel
theorem hp_X3_moveToShare : plainName yX3_moveToShare.cls = true := by decide +kernel
def rm_X3_putIn : Room := { frames := 4, cells := 0, slots := 0, locals := 87 }
theorem hy_X3_putIn : yX3_putIn.cls = RX3 ∧ yX3_putIn.cls ≠ "java/lang/invoke/MethodHandle" ∧ yX3_putIn.cls ≠ "java/lang/invoke/VarHandle" ∧ (parseMethodDescriptor yX3_putIn.desc).map (fun d => d.parameters.length) = some 3 := by decide +kernel
theorem hp_X3_putIn : plainName yX3_putIn.cls = true := by decide +kernel
def rm_X3_settle : Room := { frames := 3, cells := 0, slots := 0, locals := 64 }
theorem hy_X3_settle : yX3_settle.cls = RX3 ∧ yX3_settle.cls ≠ "java/lang/invoke/MethodHandle" ∧ yX3_settle.cls ≠ "java/lang/invoke/VarHandle" ∧ (parseMethodDescriptor yX3_settle.desc).map (fun d => d.parameters.length) = some 0 := by decide +kernel
theorem hp_X3_settle : plainName yX3_settle.cls = true := by decide +kernel
def rm_X3_shows : Room := { frames := 2, cells := 0, slots := 0, locals := 44 }
theorem hy_X3_shows : yX3_shows.cls = RX3 ∧ yX3_shows.cls ≠ "java/lang/invoke/MethodHandle" ∧ yX3_shows.cls ≠ "java/lang/invoke/VarHandle" ∧ (parseMethodDescriptor yX3_shows.desc).map (fun d => d.parameters.length) = some 1 := by decide +kernel
theorem hp_X3_shows : plainName yX3_shows.cls = true := by decide +kernel
def rm_X3_takeOut : Room := { frames := 4, cells := 0, slots := 0, locals := 87 }
theorem hy_X3_takeOut : yX3_takeOut.cls = RX3 ∧ yX3_takeOut.cls ≠ "java/lang/invoke/MethodHandle" ∧ yX3_takeOut.cls ≠ "java/lang/invoke/VarHandle" ∧ (parseMethodDescriptor yX3_takeOut.desc).map (fun d => d.parameters.length) = some 1 := by decide +kernel
theorem hp_X3_takeOut : plainName yX3_takeOut.cls = true := by decide +kernel
def rm_X3_top : Room := { frames := 3, cells := 0, slots := 0, locals := 67 }
theorem hy_X3_top : yX3_top.cls = RX3 ∧ yX3_top.cls ≠ "java/lang/invoke/MethodHandle" ∧ yX3_top.cls ≠ "java/lang/invoke/VarHandle" ∧ (parseMethodDescriptor yX3_top.desc).map (fun d => d.parameters.length) = some 0 := by decide +kernel
theorem hp_X3_top : plainName yX3_top.cls = true := by decide +kernel
def rm_X4_append : Room := { frames := 1, cells := 0, slots := 0, locals := 22 }
theorem hy_X4_append : yX4_append.cls = RX4 ∧ yX4_append.cls ≠ "java/lang/invoke/MethodHandle" ∧ yX4_append.cls ≠ "java/lang/invoke/VarHandle" ∧ (parseMethodDescriptor yX4_append.desc).map (fun d => d.parameters.length) = some 1 := by decide +kernel
theorem hp_X4_append : plainName yX4_append.cls = true := by decide +kernel
def rm_X4_at : Room := { frames := 3, cells := 0, slots := 0, locals := 67 }
theorem hy_X4_at : yX4_at.cls = RX4 ∧ yX4_at.cls ≠ "java/lang/invoke/MethodHandle" ∧ yX4_at.cls ≠ "java/lang/invoke/VarHandle" ∧ (parseMethodDescriptor yX4_at.desc).map (fun d => d.parameters.length) = some 1 := by decide +kernel
theorem hp_X4_at : plainName yX4_at.cls = true := by decide +kernel
def rm_X4_change : Room := { frames := 5, cells := 0, slots := 0, locals := 111 }
theorem hy_X4_change : yX4_change.cls = RX4 ∧ yX4_change.cls ≠ "java/lang/invoke/MethodHandle" ∧ yX4_change.cls ≠ "java/lang/invoke/VarHandle" ∧ (parseMethodDescriptor yX4_change.desc).map (fun d => d.parameters.length) = some 2 := by decide +kernel
theorem hp_X4_change : plainName yX4_change.cls = true := by decide +kernel
def rm_X4_clearText : Room := { frames := 1, cells := 0, slots := 0, locals := 21 }
theorem hy_X4_clearText : yX4_clearText.cls = RX4 ∧ yX4_clearText.cls ≠ "java/lang/invoke/MethodHandle" ∧ yX4_clearText.cls ≠ "java/lang/invoke/VarHandle" ∧ (parseMethodDescriptor yX4_clearText.desc).map (fun d => d.parameters.length) = some 0 := by decide +kernel
theorem hp_X4_clearText : plainName yX4_clearText.cls = true := by decide +kernel
def rm_X4_count : Room := { frames := 4, cells := 0, slots := 0, locals := 87 }
theorem hy_X4_count : yX4_count.cls = RX4 ∧ yX4_count.cls ≠ "java/lang/invoke/MethodHandle" ∧ yX4_count.cls ≠ "java/lang/invoke/VarHandle" ∧ (parseMethodDescriptor yX4_count.desc).map (fun d => d.parameters.length) = some 1 := by decide +kernel
theorem hp_X4_count : plainName yX4_count.cls = true := by decide +kernel
def rm_X4_cut : Room := { frames := 5, cells := 0, slots := 0, locals := 111 }
theorem hy_X4_cut : yX4_cut.cls = RX4 ∧ yX4_cut.cls ≠ "java/lang/invoke/MethodHandle" ∧ yX4_cut.cls ≠ "java/lang/invoke/VarHandle" ∧ (parseMethodDescriptor yX4_cut.desc).map (fun d => d.parameters.length) = some 1 := by decide +kernel
theorem hp_X4_cut : plainName yX4_cut.cls = true := by decide +kernel
def rm_X4_goTo : Room := { frames := 5, cells := 0, slots := 0, locals := 111 }
theorem hy_X4_goTo : yX4_goTo.cls = RX4 ∧ yX4_goTo.cls ≠ "java/lang/invoke/MethodHandle" ∧ yX4_goTo.cls ≠ "java/lang/invoke/VarHandle" ∧ (parseMethodDescriptor yX4_goTo.desc).map (fun d => d.parameters.length) = some 1 := by decide +kernel
theorem hp_X4_goTo : plainName yX4_goTo.cls = true := by decide +kernel
def rm_X4_isOutside : Room := { frames := 0, cells := 0, slots := 0, locals := 0 }
theorem hy_X4_isOutside : yX4_isOutside.cls ≠ "java/lang/invoke/MethodHandle" ∧ yX4_isOutside.cls ≠ "java/lang/invoke/VarHandle" ∧ (parseMethodDescriptor yX4_isOutside.desc).map (fun d => d.parameters.length) = some 3 := by decide +kernel
theorem hp_X4_isOutside : plainName yX4_isOutside.cls = true := by decide +kernel
def rm_X4_jump : Room := { frames := 5, cells := 0, slots := 0, locals := 111 }
theorem hy_X4_jump : yX4_jump.cls = RX4 ∧ yX4_jump.cls ≠ "java/lang/invoke/MethodHandle" ∧ yX4_jump.cls ≠ "java/lang/invoke/VarHandle" ∧ (parseMethodDescriptor yX4_jump.desc).map (fun d => d.parameters.length) = some 1 := by decide +kernel
theorem hp_X4_jump : plainName yX4_jump.cls = true := by decide +kernel
def rm_X4_keepDraft : Room := { frames := 4, cells := 0, slots := 0, locals := 90 }
theorem hy_X4_keepDraft : yX4_keepDraft.cls = RX4 ∧ yX4_keepDraft.cls ≠ "java/lang/invoke/MethodHandle" ∧ yX4_keepDraft.cls ≠ "java/lang/invoke/VarHandle" ∧ (parseMethodDescriptor yX4_keepDraft.desc).map (fun d => d.parameters.length) = some 1 := by decide +kernel
theorem hp_X4_keepDraft : plainName yX4_keepDraft.cls = true := by decide +kernel
def rm_X4_line : Room := { frames := 4, cells := 0, slots := 0, locals := 87 }
theorem hy_X4_line : yX4_line.cls = RX4 ∧ yX4_line.cls ≠ "java/lang/invoke/MethodHandle" ∧ yX4_line.cls ≠ "java/lang/invoke/VarHandle" ∧ (parseMethodDescriptor yX4_line.desc).map (fun d => d.parameters.length) = some 2 := by decide +kernel
theorem hp_X4_line : plainName yX4_line.cls = true := by decide +kernel
def rm_X4_measuredBy : Room := { frames := 5, cells := 0, slots := 0, locals := 109 }
theorem hy_X4_measuredBy : yX4_measuredBy.cls = RX4 ∧ yX4_measuredBy.cls ≠ "java/lang/invoke/MethodHandle" ∧ yX4_measuredBy.cls ≠ "java/lang/invoke/VarHandle" ∧ (parseMethodDescriptor yX4_measuredBy.desc).map (fun d => d.parameters.length) = some 1 := by decide +kernel
theorem hp_X4_measuredBy : plainName yX4_measuredBy.cls = true := by decide +kernel
def rm_X4_performOnDraft : Room := { frames := 5, cells := 0, slots := 0, locals := 110 }
theorem hy_X4_performOnDraft : yX4_performOnDraft.cls = RX4 ∧ yX4_performOnDraft.cls ≠ "java/lang/invoke/MethodHandle" ∧ yX4_performOnDraft.cls ≠ "java/lang/invoke/VarHandle" ∧ (parseMethodDescriptor yX4_performOnDraft.desc).map (fun d => d.parameters.length) = some 1 := by decide +kernel
theorem hp_X4_performOnDraft : plainName yX4_performOnDraft.cls = true := by decide +kernel
def rm_X4_put : Room := { frames := 5, cells := 0, slots := 0, locals := 111 }
theorem hy_X4_put : yX4_put.cls = RX4 ∧ yX4_put.cls ≠ "java/lang/invoke/MethodHandle" ∧ yX4_put.cls ≠ "java/lang/invoke/VarHandle" ∧ (parseMethodDescriptor yX4_put.desc).map (fun d => d.parameters.length) = some 3 := by decide +kernel
theorem hp_X4_put : plainName yX4_put.cls = true := by decide +kernel
def rm_X4_run : Room := { frames := 8, cells := 0, slots := 0, locals := 196 }
theorem hy_X4_run : yX4_run.cls = RX4 ∧ yX4_run.cls ≠ "java/lang/invoke/MethodHandle" ∧ yX4_run.cls ≠ "java/lang/invoke/VarHandle" ∧ (parseMethodDescriptor yX4_run.desc).map (fun d => d.parameters.length) = some 0 := by decide +kernel
theorem hp_X4_run : plainName yX4_run.cls = true := by decide +kernel
def rm_X4_scroll : Room := { frames := 5, cells := 0, slots := 0, locals := 111 }
theorem hy_X4_scroll : yX4_scroll.cls = RX4 ∧ yX4_scroll.cls ≠ "java/lang/invoke/MethodHandle" ∧ yX4_scroll.cls ≠ "java/lang/invoke/VarHandle" ∧ (parseMethodDescriptor yX4_scroll.desc).map (fun d => d.parameters.length) = some 1 := by decide +kernel
theorem hp_X4_scroll : plainName yX4_scroll.cls = true := by decide +kernel
def rm_X4_scrollsTo : Room := { frames := 5, cells := 0, slots := 0, locals := 108 }
theorem hy_X4_scrollsTo : yX4_scrollsTo.cls = RX4 ∧ yX4_scrollsTo.cls ≠ "java/lang/invoke/MethodHandle" ∧ yX4_scrollsTo.cls ≠ "java/lang/invoke/VarHandle" ∧ (parseMethodDescriptor yX4_scrollsTo.desc).map (fun d => d.parameters.length) = some 2 := by decide +kernel
theorem hp_X4_scrollsTo : plainName yX4_scrollsTo.cls = true := by decide +kernel
def rm_X4_seen : Room := { frames := 4, cells := 0, slots := 0, locals := 87 }
theorem hy_X4_seen : yX4_seen.cls = RX4 ∧ yX4_seen.cls ≠ "java/lang/invoke/MethodHandle" ∧ yX4_seen.cls ≠ "java/lang/invoke/VarHandle" ∧ (parseMethodDescriptor yX4_seen.desc).map (fun d => d.parameters.length) = some 1 := by decide +kernel
theorem hp_X4_seen : plainName yX4_seen.cls = true := by decide +kernel
def rm_X4_setHeight : Room := { frames := 5, cells := 0, slots := 0, locals := 111 }
theorem hy_X4_setHeight : yX4_setHeight.cls = RX4 ∧ yX4_setHeight.cls ≠ "java/lang/invoke/MethodHandle" ∧ yX4_setHeight.cls ≠ "java/lang/invoke/VarHandle" ∧ (parseMethodDescriptor yX4_setHeight.desc).map (fun d => d.parameters.length) = some 1 := by decide +kernel
theorem hp_X4_setHeight : plainName yX4_setHeight.cls = true := by decide +kernel
def rm_X4_setWidth : Room := { frames := 5, cells := 0, slots := 0, locals := 111 }
theorem hy_X4_setWidth : yX4_setWidth.cls = RX4 ∧ yX4_setWidth.cls ≠ "java/lang/invoke/MethodHandle" ∧ yX4_setWidth.cls ≠ "java/lang/invoke/VarHandle" ∧ (parseMethodDescriptor yX4_setWidth.desc).map (fun d => d.parameters.length) = some 1 := by decide +kernel
theorem hp_X4_setWidth : plainName yX4_setWidth.cls = true := by decide +kernel
def rm_X4_share : Room := { frames := 4, cells := 0, slots := 0, locals := 87 }
theorem hy_X4_share : yX4_share.cls = RX4 ∧ yX4_share.cls ≠ "java/lang/invoke/MethodHandle" ∧ yX4_share.cls ≠ "java/lang/invoke/VarHandle" ∧ (parseMethodDescriptor yX4_share.desc).map (fun d => d.parameters.length) = some 0 := by decide +kernel
theorem hp_X4_share : plainName yX4_share.cls = true := by decide +kernel
def rm_X4_trueSum : Room := { frames := 2, cells := 0, slots := 0, locals := 44 }
theorem hy_X4_trueSum : yX4_trueSum.cls = RX4 ∧ yX4_trueSum.cls ≠ "java/lang/invoke/MethodHandle" ∧ yX4_trueSum.cls ≠ "java/lang/invoke/VarHandle" ∧ (parseMethodDescriptor yX4_trueSum.desc).map (fun d => d.parameters.length) = some 2 := by decide +kernel
theorem hp_X4_trueSum : plainName yX4_trueSum.cls = true := by decide +kernel
def rm_X4_undo : Room := { frames := 4, cells := 0, slots := 0, locals := 89 }
theorem hy_X4_undo : yX4_undo.cls = RX4 ∧ yX4_undo.cls ≠ "java/lang/invoke/MethodHandle" ∧ yX4_undo.cls ≠ "java/lang/invoke/VarHandle" ∧ (parseMethodDescriptor yX4_undo.desc).map (fun d => d.parameters.length) = some 0 := by decide +kernel
theorem hp_X4_undo : plainName yX4_undo.cls = true := by decide +kernel
def rm_X5_acted : Room := { frames := 1, cells := 0, slots := 0, locals := 24 }
theorem hy_X5_acted : yX5_acted.cls = RX5 ∧ yX5_acted.cls ≠ "java/lang/invoke/MethodHandle" ∧ yX5_acted.cls ≠ "java/lang/invoke/VarHandle" ∧ (parseMethodDescriptor yX5_acted.desc).map (fun d => d.parameters.length) = some 1 := by decide +kernel
theorem hp_X5_acted : plainName yX5_acted.cls = true := by decide +kernel
def rm_X5_append : Room := { frames := 1, cells := 0, slots := 0, locals := 22 }
theorem hy_X5_append : yX5_append.cls = RX5 ∧ yX5_append.cls ≠ "java/lang/invoke/MethodHandle" ∧ yX5_append.cls ≠ "java/lang/invoke/VarHandle" ∧ (parseMethodDescriptor yX5_append.desc).map (fun d => d.parameters.length) = some 1 := by decide +kernel
theorem hp_X5_append : plainName yX5_append.cls = true := by decide +kernel
def rm_X5_at : Room := { frames := 4, cells := 0, slots := 0, locals := 95 }
theorem hy_X5_at : yX5_at.cls = RX5 ∧ yX5_at.cls ≠ "java/lang/invoke/MethodHandle" ∧ yX5_at.cls ≠ "java/lang/invoke/VarHandle" ∧ (parseMethodDescriptor yX5_at.desc).map (fun d => d.parameters.length) = some 1 := by decide +kernel
theorem hp_X5_at : plainName yX5_at.cls = true := by decide +kernel
def rm_X5_begins : Room := { frames := 1, cells := 0, slots := 0, locals := 20 }
theorem hy_X5_begins : yX5_begins.cls = RX5 ∧ yX5_begins.cls ≠ "java/lang/invoke/MethodHandle" ∧ yX5_begins.cls ≠ "java/lang/invoke/VarHandle" ∧ (parseMethodDescriptor yX5_begins.desc).map (fun d => d.parameters.length) = some 0 := by decide +kernel
theorem hp_X5_begins : plainName yX5_begins.cls = true := by decide +kernel
def rm_X5_change : Room := { frames := 4, cells := 0, slots := 0, locals := 87 }
theorem hy_X5_change : yX5_change.cls = RX5 ∧ yX5_change.cls ≠ "java/lang/invoke/MethodHandle" ∧ yX5_change.cls ≠ "java/lang/invoke/VarHandle" ∧ (parseMethodDescriptor yX5_change.desc).map (fun d => d.parameters.length) = some 2 := by decide +kernel
theorem hp_X5_change : plainName yX5_change.cls = true := by decide +kernel
def rm_X5_clearText : Room := { frames := 0, cells := 0, slots := 0, locals := 0 }
theorem hy_X5_clearText : yX5_clearText.cls = RX5 ∧ yX5_clearText.cls ≠ "java/lang/invoke/MethodHandle" ∧ yX5_clearText.cls ≠ "java/lang/invoke/VarHandle" ∧ (parseMethodDescriptor yX5_clearText.desc).map (fun d => d.parameters.length) = some 0 := by decide +kernel
theorem hp_X5_clearText : plainName yX5_clearText.cls = true := by decide +kernel
def rm_X5_copies : Room := { frames := 0, cells := 0, slots := 0, locals := 0 }
theorem hy_X5_copies : yX5_copies.cls ≠ "java/lang/invoke/MethodHandle" ∧ yX5_copies.cls ≠ "java/lang/invoke/VarHandle" ∧ (parseMethodDescriptor yX5_copies.desc).map (fun d => d.parameters.length) = some 4 := by decide +kernel
theorem hp_X5_copies : plainName yX5_copies.cls = true := by decide +kernel
def rm_X5_count : Room := { frames := 7, cells := 0, slots := 0, locals := 161 }
theorem hy_X5_count : yX5_count.cls = RX5 ∧ yX5_count.cls ≠ "java/lang/invoke/MethodHandle" ∧ yX5_count.cls ≠ "java/lang/invoke/VarHandle" ∧ (parseMethodDescriptor yX5_count.desc).map (fun d => d.parameters.length) = some 1 := by decide +kernel
theorem hp_X5_count : plainName yX5_count.cls = true := by decide +kernel
def rm_X5_cut : Room := { frames := 5, cells := 0, slots := 0, locals := 109 }
theorem hy_X5_cut : yX5_cut.cls = RX5 ∧ yX5_cut.cls ≠ "java/lang/invoke/MethodHandle" ∧ yX5_cut.cls ≠ "java/lang/invoke/VarHandle" ∧ (parseMethodDescriptor yX5_cut.desc).map (fun d => d.parameters.length) = some 1 := by decide +kernel
theorem hp_X5_cut : plainName yX5_cut.cls = true := by decide +kernel
def rm_X5_cuts : Room := { frames := 4, cells := 0, slots := 0, locals := 87 }
theorem hy_X5_cuts : yX5_cuts.cls = RX5 ∧ yX5_cuts.cls ≠ "java/lang/invoke/MethodHandle" ∧ yX5_cuts.cls ≠ "java/lang/invoke/VarHandle" ∧ (parseMethodDescriptor yX5_cuts.desc).map (fun d => d.parameters.length) = some 1 := by decide +kernel
theorem hp_X5_cuts : plainName yX5_cuts.cls = true := by decide +kernel
def rm_X5_does : Room := { frames := 7, cells := 0, slots := 0, locals := 162 }
theorem hy_X5_does : yX5_does.cls = RX5 ∧ yX5_does.cls ≠ "java/lang/invoke/MethodHandle" ∧ yX5_does.cls ≠ "java/lang/invoke/VarHandle" ∧ (parseMethodDescriptor yX5_does.desc).map (fun d => d.parameters.length) = some 1 := by decide +kernel
theorem hp_X5_does : plainName yX5_does.cls = true := by decide +kernel
def rm_X5_fails : Room := { frames := 8, cells := 0, slots := 0, locals := 183 }
theorem hy_X5_fails : yX5_fails.cls = RX5 ∧ yX5_fails.cls ≠ "java/lang/invoke/MethodHandle" ∧ yX5_fails.cls ≠ "java/lang/invoke/VarHandle" ∧ (parseMethodDescriptor yX5_fails.desc).map (fun d => d.parameters.length) = some 0 := by decide +kernel
theorem hp_X5_fails : plainName yX5_fails.cls = true := by decide +kernel
def rm_X5_goTo : Room := { frames := 5, cells := 0, slots := 0, locals := 108 }
theorem hy_X5_goTo : yX5_goTo.cls = RX5 ∧ yX5_goTo.cls ≠ "java/lang/invoke/MethodHandle" ∧ yX5_goTo.cls ≠ "java/lang/invoke/VarHandle" ∧ (parseMethodDescriptor yX5_goTo.desc).map (fun d => d.parameters.length) = some 1 := by decide +kernel
theorem hp_X5_goTo : plainName yX5_goTo.cls = true := by decide +kernel
def rm_X5_goesUp : Room := { frames := 2, cells := 0, slots := 0, locals := 45 }
theorem hy_X5_goesUp : yX5_goesUp.cls ≠ "java/lang/invoke/MethodHandle" ∧ yX5_goesUp.cls ≠ "java/lang/invoke/VarHandle" ∧ (parseMethodDescriptor yX5_goesUp.desc).map (fun d => d.parameters.length) = some 1 := by decide +kernel
theorem hp_X5_goesUp : plainName yX5_goesUp.cls = true := by decide +kernel
def rm_X5_gone : Room := { frames := 4, cells := 0, slots := 0, locals := 87 }
theorem hy_X5_gone : yX5_gone.cls = RX5 ∧ yX5_gone.cls ≠ "java/lang/invoke/MethodHandle" ∧ yX5_gone.cls ≠ "java/lang/invoke/VarHandle" ∧ (parseMethodDescriptor yX5_gone.desc).map (fun d => d.parameters.length) = some 1 := by decide +kernel
theorem hp_X5_gone : plainName yX5_gone.cls = true := by decide +kernel
def rm_X5_heightOf : Room := { frames := 2, cells := 0, slots := 0, locals := 45 }
theorem hy_X5_heightOf : yX5_heightOf.cls = RX5 ∧ yX5_heightOf.cls ≠ "java/lang/invoke/MethodHandle" ∧ yX5_heightOf.cls ≠ "java/lang/invoke/VarHandle" ∧ (parseMethodDescriptor yX5_heightOf.desc).map (fun d => d.parameters.length) = some 2 := by decide +kernel
theorem hp_X5_heightOf : plainName yX5_heightOf.cls = true := by decide +kernel
def rm_X5_in : Room := { frames := 0, cells := 0, slots := 0, locals := 0 }
theorem hy_X5_in : yX5_in.cls ≠ "java/lang/invoke/MethodHandle" ∧ yX5_in.cls ≠ "java/lang/invoke/VarHandle" ∧ (parseMethodDescriptor yX5_in.desc).map (fun d => d.parameters.length) = some 3 := by decide +kernel
theorem hp_X5_in : plainName yX5_in.cls = true := by decide +kernel
def rm_X5_isLine : Room := { frames := 1, cells := 0, slots := 0, locals := 22 }
theorem hy_X5_isLine : yX5_isLine.cls = RX5 ∧ yX5_isLine.cls ≠ "java/lang/invoke/MethodHandle" ∧ yX5_isLine.cls ≠ "java/lang/invoke/VarHandle" ∧ (parseMethodDescriptor yX5_isLine.desc).map (fun d => d.parameters.length) = some 1 := by decide +kernel
theorem hp_X5_isLine : plainName yX5_isLine.cls = true := by decide +kernel
def rm_X5_isSeen : Room := { frames := 5, cells := 0, slots := 0, locals := 116 }
theorem hy_X5_isSeen : yX5_isSeen.cls = RX5 ∧ yX5_isSeen.cls ≠ "java/lang/invoke/MethodHandle" ∧ yX5_isSeen.cls ≠ "java/lang/invoke/VarHandle" ∧ (parseMethodDescriptor yX5_isSeen.desc).map (fun d => d.parameters.length) = some 2 := by decide +kernel
theorem hp_X5_isSeen : plainName yX5_isSeen.cls = true := by decide +kernel
def rm_X5_jump : Room := { frames := 7, cells := 0, slots := 0, locals := 162 }
theorem hy_X5_jump : yX5_jump.cls = RX5 ∧ yX5_jump.cls ≠ "java/lang/invoke/MethodHandle" ∧ yX5_jump.cls ≠ "java/lang/invoke/VarHandle" ∧ (parseMethodDescriptor yX5_jump.desc).map (fun d => d.parameters.length) = some 1 := by decide +kernel
theorem hp_X5_jump : plainName yX5_jump.cls = true := by decide +kernel
def rm_X5_jumped : Room := { frames := 6, cells := 0, slots := 0, locals := 141 }
theorem hy_X5_jumped : yX5_jumped.cls = RX5 ∧ yX5_jumped.cls ≠ "java/lang/invoke/MethodHandle" ∧ yX5_jumped.cls ≠ "java/lang/invoke/VarHandle" ∧ (parseMethodDescriptor yX5_jumped.desc).map (fun d => d.parameters.length) = some 1 := by decide +kernel
theorem hp_X5_jumped : plainName yX5_jumped.cls = true := by decide +kernel
def rm_X5_jumps : Room := { frames := 5, cells := 0, slots := 0, locals := 116 }
theorem hy_X5_jumps : yX5_jumps.cls = RX5 ∧ yX5_jumps.cls ≠ "java/lang/invoke/MethodHandle" ∧ yX5_jumps.cls ≠ "java/lang/invoke/VarHandle" ∧ (parseMethodDescriptor yX5_jumps.desc).map (fun d => d.parameters.length) = some 2 := by decide +kernel
theorem hp_X5_jumps : plainName yX5_jumps.cls = true := by decide +kernel
def rm_X5_keeps : Room := { frames := 1, cells := 0, slots := 0, locals := 24 }
theorem hy_X5_keeps : yX5_keeps.cls = RX5 ∧ yX5_keeps.cls ≠ "java/lang/invoke/MethodHandle" ∧ yX5_keeps.cls ≠ "java/lang/invoke/VarHandle" ∧ (parseMethodDescriptor yX5_keeps.desc).map (fun d => d.parameters.length) = some 0 := by decide +kernel
theorem hp_X5_keeps : plainName yX5_keeps.cls = true := by decide +kernel
def rm_X5_l : Room := { frames := 0, cells := 0, slots := 0, locals := 0 }
theorem hy_X5_l : yX5_l.cls ≠ "java/lang/invoke/MethodHandle" ∧ yX5_l.cls ≠ "java/lang/invoke/VarHandle" ∧ (parseMethodDescriptor yX5_l.desc).map (fun d => d.parameters.length) = some 2 := by decide +kernel
theorem hp_X5_l : plainName yX5_l.cls = true := by decide +kernel
def rm_X5_laysGuesses : Room := { frames := 2, cells := 0, slots := 0, locals := 45 }
theorem hy_X5_laysGuesses : yX5_laysGuesses.cls = RX5 ∧ yX5_laysGuesses.cls ≠ "java/lang/invoke/MethodHandle" ∧ yX5_laysGuesses.cls ≠ "java/lang/invoke/VarHandle" ∧ (parseMethodDescriptor yX5_laysGuesses.desc).map (fun d => d.parameters.length) = some 1 := by decide +kernel
theorem hp_X5_laysGuesses : plainName yX5_laysGuesses.cls = true := by decide +kernel
def rm_X5_line : Room := { frames := 5, cells := 0, slots := 0, locals := 116 }
theorem hy_X5_line : yX5_line.cls = RX5 ∧ yX5_line.cls ≠ "java/lang/invoke/MethodHandle" ∧ yX5_line.cls ≠ "java/lang/invoke/VarHandle" ∧ (parseMethodDescriptor yX5_line.desc).map (fun d => d.parameters.length) = some 2 := by decide +kernel
theorem hp_X5_line : plainName yX5_line.cls = true := by decide +kernel
def rm_X5_lineAt : Room := { frames := 3, cells := 0, slots := 0, locals := 71 }
theorem hy_X5_lineAt : yX5_lineAt.cls = RX5 ∧ yX5_lineAt.cls ≠ "java/lang/invoke/MethodHandle" ∧ yX5_lineAt.cls ≠ "java/lang/invoke/VarHandle" ∧ (parseMethodDescriptor yX5_lineAt.desc).map (fun d => d.parameters.length) = some 2 := by decide +kernel
theorem hp_X5_lineAt : plainName yX5_lineAt.cls = true := by decide +kernel
def rm_X5_measured : Room := { frames := 1, cells := 0, slots := 0, locals := 21 }
theorem hy_X5_measured : yX5_measured.cls = RX5 ∧ yX5_measured.cls ≠ "java/lang/invoke/MethodHandle" ∧ yX5_measured.cls ≠ "java/lang/invoke/VarHandle" ∧ (parseMethodDescriptor yX5_measured.desc).map (fun d => d.parameters.length) = some 1 := by decide +kernel
theorem hp_X5_measured : plainName yX5_measured.cls = true := by decide +kernel
def rm_X5_measuredBy : Room := { frames := 6, cells := 0, slots := 0, locals := 141 }
theorem hy_X5_measuredBy : yX5_measuredBy.cls = RX5 ∧ yX5_measuredBy.cls ≠ "java/lang/invoke/MethodHandle" ∧ yX5_measuredBy.cls ≠ "java/lang/invoke/VarHandle" ∧ (parseMethodDescriptor yX5_measuredBy.desc).map (fun d => d.parameters.length) = some 1 := by decide +kernel
theorem hp_X5_measuredBy : plainName yX5_measuredBy.cls = true := by decide +kernel
def rm_X5_next : Room := { frames := 0, cells := 0, slots := 0, locals := 0 }
theorem hy_X5_next : yX5_next.cls = RX5 ∧ yX5_next.cls ≠ "java/lang/invoke/MethodHandle" ∧ yX5_next.cls ≠ "java/lang/invoke/VarHandle" ∧ (parseMethodDescriptor yX5_next.desc).map (fun d => d.parameters.length) = some 0 := by decide +kernel
theorem hp_X5_next : plainName yX5_next.cls = true := by decide +kernel
def rm_X5_number : Room := { frames := 2, cells := 0, slots := 0, locals := 40 }
theorem hy_X5_number : yX5_number.cls = RX5 ∧ yX5_number.cls ≠ "java/lang/invoke/MethodHandle" ∧ yX5_number.cls ≠ "java/lang/invoke/VarHandle" ∧ (parseMethodDescriptor yX5_number.desc).map (fun d => d.parameters.length) = some 0 := by decide +kernel
theorem hp_X5_number : plainName yX5_number.cls = true := by decide +kernel
def rm_X5_numbersOf : Room := { frames := 0, cells := 0, slots := 0, locals := 0 }
theorem hy_X5_numbersOf : yX5_numbersOf.cls ≠ "java/lang/invoke/MethodHandle" ∧ yX5_numbersOf.cls ≠ "java/lang/invoke/VarHandle" ∧ (parseMethodDescriptor yX5_numbersOf.desc).map (fun d => d.parameters.length) = some 1 := by decide +kernel
theorem hp_X5_numbersOf : plainName yX5_numbersOf.cls = true := by decide +kernel
def rm_X5_put : Room := { frames := 6, cells := 0, slots := 0, locals := 140 }
theorem hy_X5_put : yX5_put.cls = RX5 ∧ yX5_put.cls ≠ "java/lang/invoke/MethodHandle" ∧ yX5_put.cls ≠ "java/lang/invoke/VarHandle" ∧ (parseMethodDescriptor yX5_put.desc).map (fun d => d.parameters.length) = some 3 := by decide +kernel
theorem hp_X5_put : plainName yX5_put.cls = true := by decide +kernel
def rm_X5_puts : Room := { frames := 5, cells := 0, slots := 0, locals := 116 }
theorem hy_X5_puts : yX5_puts.cls = RX5 ∧ yX5_puts.cls ≠ "java/lang/invoke/MethodHandle" ∧ yX5_puts.cls ≠ "java/lang/invoke/VarHandle" ∧ (parseMethodDescriptor yX5_puts.desc).map (fun d => d.parameters.length) = some 3 := by decide +kernel
theorem hp_X5_puts : plainName yX5_puts.cls = true := by decide +kernel
def rm_X5_run : Room := { frames := 9, cells := 0, slots := 0, locals := 207 }
theorem hy_X5_run : yX5_run.cls = RX5 ∧ yX5_run.cls ≠ "java/lang/invoke/MethodHandle" ∧ yX5_run.cls ≠ "java/lang/invoke/VarHandle" ∧ (parseMethodDescriptor yX5_run.desc).map (fun d => d.parameters.length) = some 0 := by decide +kernel
theorem hp_X5_run : plainName yX5_run.cls = true := by decide +kernel
def rm_X5_scroll : Room := { frames := 6, cells := 0, slots := 0, locals := 129 }
theorem hy_X5_scroll : yX5_scroll.cls = RX5 ∧ yX5_scroll.cls ≠ "java/lang/invoke/MethodHandle" ∧ yX5_scroll.cls ≠ "java/lang/invoke/VarHandle" ∧ (parseMethodDescriptor yX5_scroll.desc).map (fun d => d.parameters.length) = some 1 := by decide +kernel
theorem hp_X5_scroll : plainName yX5_scroll.cls = true := by decide +kernel
def rm_X5_scrolled : Room := { frames := 5, cells := 0, slots := 0, locals := 108 }
theorem hy_X5_scrolled : yX5_scrolled.cls = RX5 ∧ yX5_scrolled.cls ≠ "java/lang/invoke/MethodHandle" ∧ yX5_scrolled.cls ≠ "java/lang/invoke/VarHandle" ∧ (parseMethodDescriptor yX5_scrolled.desc).map (fun d => d.parameters.length) = some 1 := by decide +kernel
theorem hp_X5_scrolled : plainName yX5_scrolled.cls = true := by decide +kernel
def rm_X5_scrolls : Room := { frames := 4, cells := 0, slots := 0, locals := 87 }
theorem hy_X5_scrolls : yX5_scrolls.cls ≠ "java/lang/invoke/MethodHandle" ∧ yX5_scrolls.cls ≠ "java/lang/invoke/VarHandle" ∧ (parseMethodDescriptor yX5_scrolls.desc).map (fun d => d.parameters.length) = some 2 := by decide +kernel
theorem hp_X5_scrolls : plainName yX5_scrolls.cls = true := by decide +kernel
def rm_X5_scrollsTo : Room := { frames := 6, cells := 0, slots := 0, locals := 139 }
theorem hy_X5_scrollsTo : yX5_scrollsTo.cls = RX5 ∧ yX5_scrollsTo.cls ≠ "java/lang/invoke/MethodHandle" ∧ yX5_scrollsTo.cls ≠ "java/lang/invoke/VarHandle" ∧ (parseMethodDescriptor yX5_scrollsTo.desc).map (fun d => d.parameters.length) = some 2 := by decide +kernel
theorem hp_X5_scrollsTo : plainName yX5_scrollsTo.cls = true := by decide +kernel
def rm_X5_seen : Room := { frames := 5, cells := 0, slots := 0, locals := 116 }
theorem hy_X5_seen : yX5_seen.cls = RX5 ∧ yX5_seen.cls ≠ "java/lang/invoke/MethodHandle" ∧ yX5_seen.cls ≠ "java/lang/invoke/VarHandle" ∧ (parseMethodDescriptor yX5_seen.desc).map (fun d => d.parameters.length) = some 1 := by decide +kernel
theorem hp_X5_seen : plainName yX5_seen.cls = true := by decide +kernel
def rm_X5_seenLines : Room := { frames := 6, cells := 0, slots := 0, locals := 139 }
theorem hy_X5_seenLines : yX5_seenLines.cls = RX5 ∧ yX5_seenLines.cls ≠ "java/lang/invoke/MethodHandle" ∧ yX5_seenLines.cls ≠ "java/lang/invoke/VarHandle" ∧ (parseMethodDescriptor yX5_seenLines.desc).map (fun d => d.parameters.length) = some 0 := by decide +kernel
theorem hp_X5_seenLines : plainName yX5_seenLines.cls = true := by decide +kernel
def rm_X5_setHeight : Room := { frames := 4, cells := 0, slots := 0, locals := 87 }
theorem hy_X5_setHeight : yX5_setHeight.cls = RX5 ∧ yX5_setHeight.cls ≠ "java/lang/invoke/MethodHandle" ∧ yX5_setHeight.cls ≠ "java/lang/invoke/VarHandle" ∧ (parseMethodDescriptor yX5_setHeight.desc).map (fun d => d.parameters.length) = some 1 := by decide +kernel
theorem hp_X5_setHeight : plainName yX5_setHeight.cls = true := by decide +kernel
def rm_X5_setWidth : Room := { frames := 4, cells := 0, slots := 0, locals := 87 }
theorem hy_X5_setWidth : yX5_setWidth.cls = RX5 ∧ yX5_setWidth.cls ≠ "java/lang/invoke/MethodHandle" ∧ yX5_setWidth.cls ≠ "java/lang/invoke/VarHandle" ∧ (parseMethodDescriptor yX5_setWidth.desc).map (fun d => d.parameters.length) = some 1 := by decide +kernel
theorem hp_X5_setWidth : plainName yX5_setWidth.cls = true := by decide +kernel
def rm_X5_settles : Room := { frames := 3, cells := 0, slots := 0, locals := 65 }
theorem hy_X5_settles : yX5_settles.cls ≠ "java/lang/invoke/MethodHandle" ∧ yX5_settles.cls ≠ "java/lang/invoke/VarHandle" ∧ (parseMethodDescriptor yX5_settles.desc).map (fun d => d.parameters.length) = some 1 := by decide +kernel
theorem hp_X5_settles : plainName yX5_settles.cls = true := by decide +kernel
def rm_X5_share : Room := { frames := 5, cells := 0, slots := 0, locals := 116 }
theorem hy_X5_share : yX5_share.cls = RX5 ∧ yX5_share.cls ≠ "java/lang/invoke/MethodHandle" ∧ yX5_share.cls ≠ "java/lang/invoke/VarHandle" ∧ (parseMethodDescriptor yX5_share.desc).map (fun d => d.parameters.length) = some 0 := by decide +kernel
theorem hp_X5_share : plainName yX5_share.cls = true := by decide +kernel
def rm_X5_topOf : Room := { frames := 3, cells := 0, slots := 0, locals := 71 }
theorem hy_X5_topOf : yX5_topOf.cls = RX5 ∧ yX5_topOf.cls ≠ "java/lang/invoke/MethodHandle" ∧ yX5_topOf.cls ≠ "java/lang/invoke/VarHandle" ∧ (parseMethodDescriptor yX5_topOf.desc).map (fun d => d.parameters.length) = some 2 := by decide +kernel
theorem hp_X5_topOf : plainName yX5_topOf.cls = true := by decide +kernel
def rm_X5_total : Room := { frames := 4, cells := 0, slots := 0, locals := 95 }
theorem hy_X5_total : yX5_total.cls = RX5 ∧ yX5_total.cls ≠ "java/lang/invoke/MethodHandle" ∧ yX5_total.cls ≠ "java/lang/invoke/VarHandle" ∧ (parseMethodDescriptor yX5_total.desc).map (fun d => d.parameters.length) = some 1 := by decide +kernel
theorem hp_X5_total : plainName yX5_total.cls = true := by decide +kernel
def rm_X5_trueOf : Room := { frames := 1, cells := 0, slots := 0, locals := 21 }
theorem hy_X5_trueOf : yX5_trueOf.cls ≠ "java/lang/invoke/MethodHandle" ∧ yX5_trueOf.cls ≠ "java/lang/invoke/VarHandle" ∧ (parseMethodDescriptor yX5_trueOf.desc).map (fun d => d.parameters.length) = some 2 := by decide +kernel
theorem hp_X5_trueOf : plainName yX5_trueOf.cls = true := by decide +kernel
def rm_X5_trueSum : Room := { frames := 2, cells := 0, slots := 0, locals := 45 }
theorem hy_X5_trueSum : yX5_trueSum.cls = RX5 ∧ yX5_trueSum.cls ≠ "java/lang/invoke/MethodHandle" ∧ yX5_trueSum.cls ≠ "java/lang/invoke/VarHandle" ∧ (parseMethodDescriptor yX5_trueSum.desc).map (fun d => d.parameters.length) = some 2 := by decide +kernel
theorem hp_X5_trueSum : plainName yX5_trueSum.cls = true := by decide +kernel
def rm_X5_undo : Room := { frames := 1, cells := 0, slots := 0, locals := 24 }
theorem hy_X5_undo : yX5_undo.cls = RX5 ∧ yX5_undo.cls ≠ "java/lang/invoke/MethodHandle" ∧ yX5_undo.cls ≠ "java/lang/invoke/VarHandle" ∧ (parseMethodDescriptor yX5_undo.desc).map (fun d => d.parameters.length) = some 0 := by decide +kernel
theorem hp_X5_undo : plainName yX5_undo.cls = true := by decide +kernel
def rm_X5_windowOf : Room := { frames := 4, cells := 0, slots := 0, locals := 95 }
theorem hy_X5_windowOf : yX5_windowOf.cls = RX5 ∧ yX5_windowOf.cls ≠ "java/lang/invoke/MethodHandle" ∧ yX5_windowOf.cls ≠ "java/lang/invoke/VarHandle" ∧ (parseMethodDescriptor yX5_windowOf.desc).map (fun d => d.parameters.length) = some 1 := by decide +kernel
theorem hp_X5_windowOf : plainName yX5_windowOf.cls = true := by decide +kernel
def rm_X5_word : Room := { frames := 2, cells := 0, slots := 0, locals := 40 }
theorem hy_X5_word : yX5_word.cls = RX5 ∧ yX5_word.cls ≠ "java/lang/invoke/MethodHandle" ∧ yX5_word.cls ≠ "java/lang/invoke/VarHandle" ∧ (parseMethodDescriptor yX5_word.desc).map (fun d => d.parameters.length) = some 0 := by decide +kernel
theorem hp_X5_word : plainName yX5_word.cls = true := by decide +kernel
