/-! ===== HEADS: rooms, descriptors ===== -/
def rm_L_cell : Room := { frames := 0, cells := 0, slots := 0, locals := 0 }
theorem hy_L_cell : yL_cell.cls ≠ "java/lang/invoke/MethodHandle" ∧ yL_cell.cls ≠ "java/lang/invoke/VarHandle" ∧ (parseMethodDescriptor yL_cell.desc).map (fun d => d.parameters.length) = some 2 := by decide +kernel
theorem hp_L_cell : plainName yL_cell.cls = true := by decide +kernel
def rm_L_cuts : Room := { frames := 6, cells := 0, slots := 0, locals := 132 }
theorem hy_L_cuts : yL_cuts.cls ≠ "java/lang/invoke/MethodHandle" ∧ yL_cuts.cls ≠ "java/lang/invoke/VarHandle" ∧ (parseMethodDescriptor yL_cuts.desc).map (fun d => d.parameters.length) = some 2 := by decide +kernel
theorem hp_L_cuts : plainName yL_cuts.cls = true := by decide +kernel
def rm_L_fills : Room := { frames := 6, cells := 0, slots := 0, locals := 134 }
theorem hy_L_fills : yL_fills.cls ≠ "java/lang/invoke/MethodHandle" ∧ yL_fills.cls ≠ "java/lang/invoke/VarHandle" ∧ (parseMethodDescriptor yL_fills.desc).map (fun d => d.parameters.length) = some 3 := by decide +kernel
theorem hp_L_fills : plainName yL_fills.cls = true := by decide +kernel
def rm_L_guessesHold : Room := { frames := 5, cells := 0, slots := 0, locals := 109 }
theorem hy_L_guessesHold : yL_guessesHold.cls ≠ "java/lang/invoke/MethodHandle" ∧ yL_guessesHold.cls ≠ "java/lang/invoke/VarHandle" ∧ (parseMethodDescriptor yL_guessesHold.desc).map (fun d => d.parameters.length) = some 1 := by decide +kernel
theorem hp_L_guessesHold : plainName yL_guessesHold.cls = true := by decide +kernel
def rm_L_holds : Room := { frames := 6, cells := 0, slots := 0, locals := 144 }
theorem hy_L_holds : yL_holds.cls ≠ "java/lang/invoke/MethodHandle" ∧ yL_holds.cls ≠ "java/lang/invoke/VarHandle" ∧ (parseMethodDescriptor yL_holds.desc).map (fun d => d.parameters.length) = some 1 := by decide +kernel
theorem hp_L_holds : plainName yL_holds.cls = true := by decide +kernel
def rm_L_linesHold : Room := { frames := 5, cells := 0, slots := 0, locals := 109 }
theorem hy_L_linesHold : yL_linesHold.cls ≠ "java/lang/invoke/MethodHandle" ∧ yL_linesHold.cls ≠ "java/lang/invoke/VarHandle" ∧ (parseMethodDescriptor yL_linesHold.desc).map (fun d => d.parameters.length) = some 1 := by decide +kernel
theorem hp_L_linesHold : plainName yL_linesHold.cls = true := by decide +kernel
def rm_L_size : Room := { frames := 0, cells := 0, slots := 0, locals := 0 }
theorem hy_L_size : yL_size.cls ≠ "java/lang/invoke/MethodHandle" ∧ yL_size.cls ≠ "java/lang/invoke/VarHandle" ∧ (parseMethodDescriptor yL_size.desc).map (fun d => d.parameters.length) = some 1 := by decide +kernel
theorem hp_L_size : plainName yL_size.cls = true := by decide +kernel
def rm_L_undoes : Room := { frames := 6, cells := 0, slots := 0, locals := 134 }
theorem hy_L_undoes : yL_undoes.cls ≠ "java/lang/invoke/MethodHandle" ∧ yL_undoes.cls ≠ "java/lang/invoke/VarHandle" ∧ (parseMethodDescriptor yL_undoes.desc).map (fun d => d.parameters.length) = some 2 := by decide +kernel
theorem hp_L_undoes : plainName yL_undoes.cls = true := by decide +kernel
def rm_X0_record : Room := { frames := 3, cells := 0, slots := 0, locals := 68 }
theorem hy_X0_record : yX0_record.cls = RX0 ∧ yX0_record.cls ≠ "java/lang/invoke/MethodHandle" ∧ yX0_record.cls ≠ "java/lang/invoke/VarHandle" ∧ (parseMethodDescriptor yX0_record.desc).map (fun d => d.parameters.length) = some 1 := by decide +kernel
theorem hp_X0_record : plainName yX0_record.cls = true := by decide +kernel
def rm_X0_restoreTo : Room := { frames := 3, cells := 0, slots := 0, locals := 68 }
theorem hy_X0_restoreTo : yX0_restoreTo.cls = RX0 ∧ yX0_restoreTo.cls ≠ "java/lang/invoke/MethodHandle" ∧ yX0_restoreTo.cls ≠ "java/lang/invoke/VarHandle" ∧ (parseMethodDescriptor yX0_restoreTo.desc).map (fun d => d.parameters.length) = some 1 := by decide +kernel
theorem hp_X0_restoreTo : plainName yX0_restoreTo.cls = true := by decide +kernel
def rm_X0_stateAt : Room := { frames := 0, cells := 0, slots := 0, locals := 0 }
theorem hy_X0_stateAt : yX0_stateAt.cls = RX0 ∧ yX0_stateAt.cls ≠ "java/lang/invoke/MethodHandle" ∧ yX0_stateAt.cls ≠ "java/lang/invoke/VarHandle" ∧ (parseMethodDescriptor yX0_stateAt.desc).map (fun d => d.parameters.length) = some 1 := by decide +kernel
theorem hp_X0_stateAt : plainName yX0_stateAt.cls = true := by decide +kernel
def rm_X1_copyFrom : Room := { frames := 1, cells := 0, slots := 0, locals := 26 }
theorem hy_X1_copyFrom : yX1_copyFrom.cls = RX1 ∧ yX1_copyFrom.cls ≠ "java/lang/invoke/MethodHandle" ∧ yX1_copyFrom.cls ≠ "java/lang/invoke/VarHandle" ∧ (parseMethodDescriptor yX1_copyFrom.desc).map (fun d => d.parameters.length) = some 1 := by decide +kernel
theorem hp_X1_copyFrom : plainName yX1_copyFrom.cls = true := by decide +kernel
def rm_X1_forget : Room := { frames := 1, cells := 0, slots := 0, locals := 23 }
theorem hy_X1_forget : yX1_forget.cls = RX1 ∧ yX1_forget.cls ≠ "java/lang/invoke/MethodHandle" ∧ yX1_forget.cls ≠ "java/lang/invoke/VarHandle" ∧ (parseMethodDescriptor yX1_forget.desc).map (fun d => d.parameters.length) = some 1 := by decide +kernel
theorem hp_X1_forget : plainName yX1_forget.cls = true := by decide +kernel
def rm_X1_forgetAllFor : Room := { frames := 2, cells := 0, slots := 0, locals := 44 }
theorem hy_X1_forgetAllFor : yX1_forgetAllFor.cls = RX1 ∧ yX1_forgetAllFor.cls ≠ "java/lang/invoke/MethodHandle" ∧ yX1_forgetAllFor.cls ≠ "java/lang/invoke/VarHandle" ∧ (parseMethodDescriptor yX1_forgetAllFor.desc).map (fun d => d.parameters.length) = some 1 := by decide +kernel
theorem hp_X1_forgetAllFor : plainName yX1_forgetAllFor.cls = true := by decide +kernel
def rm_X1_guess : Room := { frames := 0, cells := 0, slots := 0, locals := 0 }
theorem hy_X1_guess : yX1_guess.cls = RX1 ∧ yX1_guess.cls ≠ "java/lang/invoke/MethodHandle" ∧ yX1_guess.cls ≠ "java/lang/invoke/VarHandle" ∧ (parseMethodDescriptor yX1_guess.desc).map (fun d => d.parameters.length) = some 1 := by decide +kernel
theorem hp_X1_guess : plainName yX1_guess.cls = true := by decide +kernel
def rm_X1_heightOf : Room := { frames := 1, cells := 0, slots := 0, locals := 23 }
theorem hy_X1_heightOf : yX1_heightOf.cls = RX1 ∧ yX1_heightOf.cls ≠ "java/lang/invoke/MethodHandle" ∧ yX1_heightOf.cls ≠ "java/lang/invoke/VarHandle" ∧ (parseMethodDescriptor yX1_heightOf.desc).map (fun d => d.parameters.length) = some 1 := by decide +kernel
theorem hp_X1_heightOf : plainName yX1_heightOf.cls = true := by decide +kernel
def rm_X1_insert : Room := { frames := 1, cells := 0, slots := 0, locals := 26 }
theorem hy_X1_insert : yX1_insert.cls = RX1 ∧ yX1_insert.cls ≠ "java/lang/invoke/MethodHandle" ∧ yX1_insert.cls ≠ "java/lang/invoke/VarHandle" ∧ (parseMethodDescriptor yX1_insert.desc).map (fun d => d.parameters.length) = some 3 := by decide +kernel
theorem hp_X1_insert : plainName yX1_insert.cls = true := by decide +kernel
def rm_X1_isKind : Room := { frames := 0, cells := 0, slots := 0, locals := 0 }
theorem hy_X1_isKind : yX1_isKind.cls = RX1 ∧ yX1_isKind.cls ≠ "java/lang/invoke/MethodHandle" ∧ yX1_isKind.cls ≠ "java/lang/invoke/VarHandle" ∧ (parseMethodDescriptor yX1_isKind.desc).map (fun d => d.parameters.length) = some 1 := by decide +kernel
theorem hp_X1_isKind : plainName yX1_isKind.cls = true := by decide +kernel
def rm_X1_isLine : Room := { frames := 0, cells := 0, slots := 0, locals := 0 }
theorem hy_X1_isLine : yX1_isLine.cls = RX1 ∧ yX1_isLine.cls ≠ "java/lang/invoke/MethodHandle" ∧ yX1_isLine.cls ≠ "java/lang/invoke/VarHandle" ∧ (parseMethodDescriptor yX1_isLine.desc).map (fun d => d.parameters.length) = some 1 := by decide +kernel
theorem hp_X1_isLine : plainName yX1_isLine.cls = true := by decide +kernel
def rm_X1_lineAt : Room := { frames := 2, cells := 0, slots := 0, locals := 44 }
theorem hy_X1_lineAt : yX1_lineAt.cls = RX1 ∧ yX1_lineAt.cls ≠ "java/lang/invoke/MethodHandle" ∧ yX1_lineAt.cls ≠ "java/lang/invoke/VarHandle" ∧ (parseMethodDescriptor yX1_lineAt.desc).map (fun d => d.parameters.length) = some 1 := by decide +kernel
theorem hp_X1_lineAt : plainName yX1_lineAt.cls = true := by decide +kernel
def rm_X1_measure : Room := { frames := 1, cells := 0, slots := 0, locals := 23 }
theorem hy_X1_measure : yX1_measure.cls = RX1 ∧ yX1_measure.cls ≠ "java/lang/invoke/MethodHandle" ∧ yX1_measure.cls ≠ "java/lang/invoke/VarHandle" ∧ (parseMethodDescriptor yX1_measure.desc).map (fun d => d.parameters.length) = some 1 := by decide +kernel
theorem hp_X1_measure : plainName yX1_measure.cls = true := by decide +kernel
def rm_X1_measuredLines : Room := { frames := 0, cells := 0, slots := 0, locals := 0 }
theorem hy_X1_measuredLines : yX1_measuredLines.cls = RX1 ∧ yX1_measuredLines.cls ≠ "java/lang/invoke/MethodHandle" ∧ yX1_measuredLines.cls ≠ "java/lang/invoke/VarHandle" ∧ (parseMethodDescriptor yX1_measuredLines.desc).map (fun d => d.parameters.length) = some 0 := by decide +kernel
theorem hp_X1_measuredLines : plainName yX1_measuredLines.cls = true := by decide +kernel
def rm_X1_remove : Room := { frames := 2, cells := 0, slots := 0, locals := 44 }
theorem hy_X1_remove : yX1_remove.cls = RX1 ∧ yX1_remove.cls ≠ "java/lang/invoke/MethodHandle" ∧ yX1_remove.cls ≠ "java/lang/invoke/VarHandle" ∧ (parseMethodDescriptor yX1_remove.desc).map (fun d => d.parameters.length) = some 1 := by decide +kernel
theorem hp_X1_remove : plainName yX1_remove.cls = true := by decide +kernel
def rm_X1_setLength : Room := { frames := 2, cells := 0, slots := 0, locals := 44 }
theorem hy_X1_setLength : yX1_setLength.cls = RX1 ∧ yX1_setLength.cls ≠ "java/lang/invoke/MethodHandle" ∧ yX1_setLength.cls ≠ "java/lang/invoke/VarHandle" ∧ (parseMethodDescriptor yX1_setLength.desc).map (fun d => d.parameters.length) = some 2 := by decide +kernel
theorem hp_X1_setLength : plainName yX1_setLength.cls = true := by decide +kernel
def rm_X1_topOf : Room := { frames := 2, cells := 0, slots := 0, locals := 44 }
theorem hy_X1_topOf : yX1_topOf.cls = RX1 ∧ yX1_topOf.cls ≠ "java/lang/invoke/MethodHandle" ∧ yX1_topOf.cls ≠ "java/lang/invoke/VarHandle" ∧ (parseMethodDescriptor yX1_topOf.desc).map (fun d => d.parameters.length) = some 1 := by decide +kernel
theorem hp_X1_topOf : plainName yX1_topOf.cls = true := by decide +kernel
def rm_X1_total : Room := { frames := 3, cells := 0, slots := 0, locals := 67 }
theorem hy_X1_total : yX1_total.cls = RX1 ∧ yX1_total.cls ≠ "java/lang/invoke/MethodHandle" ∧ yX1_total.cls ≠ "java/lang/invoke/VarHandle" ∧ (parseMethodDescriptor yX1_total.desc).map (fun d => d.parameters.length) = some 0 := by decide +kernel
theorem hp_X1_total : plainName yX1_total.cls = true := by decide +kernel
def rm_X1_trueHeight : Room := { frames := 0, cells := 0, slots := 0, locals := 0 }
theorem hy_X1_trueHeight : yX1_trueHeight.cls = RX1 ∧ yX1_trueHeight.cls ≠ "java/lang/invoke/MethodHandle" ∧ yX1_trueHeight.cls ≠ "java/lang/invoke/VarHandle" ∧ (parseMethodDescriptor yX1_trueHeight.desc).map (fun d => d.parameters.length) = some 2 := by decide +kernel
theorem hp_X1_trueHeight : plainName yX1_trueHeight.cls = true := by decide +kernel
def rm_X1_trueHeightOf : Room := { frames := 1, cells := 0, slots := 0, locals := 23 }
theorem hy_X1_trueHeightOf : yX1_trueHeightOf.cls = RX1 ∧ yX1_trueHeightOf.cls ≠ "java/lang/invoke/MethodHandle" ∧ yX1_trueHeightOf.cls ≠ "java/lang/invoke/VarHandle" ∧ (parseMethodDescriptor yX1_trueHeightOf.desc).map (fun d => d.parameters.length) = some 1 := by decide +kernel
theorem hp_X1_trueHeightOf : plainName yX1_trueHeightOf.cls = true := by decide +kernel
def rm_X3_changeHeight : Room := { frames := 4, cells := 0, slots := 0, locals := 87 }
theorem hy_X3_changeHeight : yX3_changeHeight.cls = RX3 ∧ yX3_changeHeight.cls ≠ "java/lang/invoke/MethodHandle" ∧ yX3_changeHeight.cls ≠ "java/lang/invoke/VarHandle" ∧ (parseMethodDescriptor yX3_changeHeight.desc).map (fun d => d.parameters.length) = some 1 := by decide +kernel
theorem hp_X3_changeHeight : plainName yX3_changeHeight.cls = true := by decide +kernel
def rm_X3_changeLength : Room := { frames := 4, cells := 0, slots := 0, locals := 87 }
theorem hy_X3_changeLength : yX3_changeLength.cls = RX3 ∧ yX3_changeLength.cls ≠ "java/lang/invoke/MethodHandle" ∧ yX3_changeLength.cls ≠ "java/lang/invoke/VarHandle" ∧ (parseMethodDescriptor yX3_changeLength.desc).map (fun d => d.parameters.length) = some 2 := by decide +kernel
theorem hp_X3_changeLength : plainName yX3_changeLength.cls = true := by decide +kernel
def rm_X3_changeWidth : Room := { frames := 4, cells := 0, slots := 0, locals := 87 }
theorem hy_X3_changeWidth : yX3_changeWidth.cls = RX3 ∧ yX3_changeWidth.cls ≠ "java/lang/invoke/MethodHandle" ∧ yX3_changeWidth.cls ≠ "java/lang/invoke/VarHandle" ∧ (parseMethodDescriptor yX3_changeWidth.desc).map (fun d => d.parameters.length) = some 1 := by decide +kernel
theorem hp_X3_changeWidth : plainName yX3_changeWidth.cls = true := by decide +kernel
def rm_X3_climb : Room := { frames := 2, cells := 0, slots := 0, locals := 44 }
theorem hy_X3_climb : yX3_climb.cls = RX3 ∧ yX3_climb.cls ≠ "java/lang/invoke/MethodHandle" ∧ yX3_climb.cls ≠ "java/lang/invoke/VarHandle" ∧ (parseMethodDescriptor yX3_climb.desc).map (fun d => d.parameters.length) = some 0 := by decide +kernel
theorem hp_X3_climb : plainName yX3_climb.cls = true := by decide +kernel
def rm_X3_copyFrom : Room := { frames := 2, cells := 0, slots := 0, locals := 47 }
theorem hy_X3_copyFrom : yX3_copyFrom.cls = RX3 ∧ yX3_copyFrom.cls ≠ "java/lang/invoke/MethodHandle" ∧ yX3_copyFrom.cls ≠ "java/lang/invoke/VarHandle" ∧ (parseMethodDescriptor yX3_copyFrom.desc).map (fun d => d.parameters.length) = some 1 := by decide +kernel
theorem hp_X3_copyFrom : plainName yX3_copyFrom.cls = true := by decide +kernel
def rm_X3_descend : Room := { frames := 2, cells := 0, slots := 0, locals := 44 }
theorem hy_X3_descend : yX3_descend.cls = RX3 ∧ yX3_descend.cls ≠ "java/lang/invoke/MethodHandle" ∧ yX3_descend.cls ≠ "java/lang/invoke/VarHandle" ∧ (parseMethodDescriptor yX3_descend.desc).map (fun d => d.parameters.length) = some 0 := by decide +kernel
theorem hp_X3_descend : plainName yX3_descend.cls = true := by decide +kernel
def rm_X3_linesShown : Room := { frames := 2, cells := 0, slots := 0, locals := 44 }
theorem hy_X3_linesShown : yX3_linesShown.cls = RX3 ∧ yX3_linesShown.cls ≠ "java/lang/invoke/MethodHandle" ∧ yX3_linesShown.cls ≠ "java/lang/invoke/VarHandle" ∧ (parseMethodDescriptor yX3_linesShown.desc).map (fun d => d.parameters.length) = some 0 := by decide +kernel
theorem hp_X3_linesShown : plainName yX3_linesShown.cls = true := by decide +kernel
def rm_X3_moveBy : Room := { frames := 4, cells := 0, slots := 0, locals := 87 }
theorem hy_X3_moveBy : yX3_moveBy.cls = RX3 ∧ yX3_moveBy.cls ≠ "java/lang/invoke/MethodHandle" ∧ yX3_moveBy.cls ≠ "java/lang/invoke/VarHandle" ∧ (parseMethodDescriptor yX3_moveBy.desc).map (fun d => d.parameters.length) = some 1 := by decide +kernel
theorem hp_X3_moveBy : plainName yX3_moveBy.cls = true := by decide +kernel
def rm_X3_moveToLine : Room := { frames := 4, cells := 0, slots := 0, locals := 87 }
theorem hy_X3_moveToLine : yX3_moveToLine.cls = RX3 ∧ yX3_moveToLine.cls ≠ "java/lang/invoke/MethodHandle" ∧ yX3_moveToLine.cls ≠ "java/lang/invoke/VarHandle" ∧ (parseMethodDescriptor yX3_moveToLine.desc).map (fun d => d.parameters.length) = some 1 := by decide +kernel
theorem hp_X3_moveToLine : plainName yX3_moveToLine.cls = true := by decide +kernel
def rm_X3_moveToShare : Room := { frames := 4, cells := 0, slots := 0, locals := 87 }
theorem hy_X3_moveToShare : yX3_moveToShare.cls = RX3 ∧ yX3_moveToShare.cls ≠ "java/lang/invoke/MethodHandle" ∧ yX3_moveToShare.cls ≠ "java/lang/invoke/VarHandle" ∧ (parseMethodDescriptor yX3_moveToShare.desc).map (fun d => d.parameters.length) = some 1 := by decide +kernel
theorem hp_X3_moveToShare : plainName yX3_moveToShare.cls = true := by decide +kernel
def rm_X3_putIn : Room := { frames := 4, cells := 0, slots := 0, locals := 87 }
theorem hy_X3_putIn : yX3_putIn.cls = RX3 ∧ yX3_putIn.cls ≠ "java/lang/invoke/MethodHandle" ∧ yX3_putIn.cls ≠ "java/lang/invoke/VarHandle" ∧ (parseMethodDescriptor yX3_putIn.desc).map (fun d => d.parameters.length) = some 3 := by decide +kernel
theorem hp_X3_putIn : plainName yX3_putIn.cls = true := by decide +kernel
def rm_X3_settle : Room := { frames := 3, cells := 0, slots := 0, locals := 64 }
theorem hy_X3_settle : yX3_settle.cls = RX3 ∧ yX3_settle.cls ≠ "java/lang/invoke/MethodHandle" ∧ yX3_settle.cls ≠ "java/lang/invoke/VarHandle" ∧ (parseMethodDescriptor yX3_settle.desc).map (fun d => d.parameters.length) = some 0 := by decide +kernel
theorem hp_X3_settle : plainName yX3_settle.cls = true := by decide +kernel
def rm_X3_takeOut : Room := { frames := 4, cells := 0, slots := 0, locals := 87 }
theorem hy_X3_takeOut : yX3_takeOut.cls = RX3 ∧ yX3_takeOut.cls ≠ "java/lang/invoke/MethodHandle" ∧ yX3_takeOut.cls ≠ "java/lang/invoke/VarHandle" ∧ (parseMethodDescriptor yX3_takeOut.desc).map (fun d => d.parameters.length) = some 1 := by decide +kernel
theorem hp_X3_takeOut : plainName yX3_takeOut.cls = true := by decide +kernel
def rm_X3_top : Room := { frames := 3, cells := 0, slots := 0, locals := 67 }
theorem hy_X3_top : yX3_top.cls = RX3 ∧ yX3_top.cls ≠ "java/lang/invoke/MethodHandle" ∧ yX3_top.cls ≠ "java/lang/invoke/VarHandle" ∧ (parseMethodDescriptor yX3_top.desc).map (fun d => d.parameters.length) = some 0 := by decide +kernel
theorem hp_X3_top : plainName yX3_top.cls = true := by decide +kernel
def rm_X4_at : Room := { frames := 3, cells := 0, slots := 0, locals := 67 }
theorem hy_X4_at : yX4_at.cls = RX4 ∧ yX4_at.cls ≠ "java/lang/invoke/MethodHandle" ∧ yX4_at.cls ≠ "java/lang/invoke/VarHandle" ∧ (parseMethodDescriptor yX4_at.desc).map (fun d => d.parameters.length) = some 1 := by decide +kernel
theorem hp_X4_at : plainName yX4_at.cls = true := by decide +kernel
def rm_X4_change : Room := { frames := 5, cells := 0, slots := 0, locals := 111 }
theorem hy_X4_change : yX4_change.cls = RX4 ∧ yX4_change.cls ≠ "java/lang/invoke/MethodHandle" ∧ yX4_change.cls ≠ "java/lang/invoke/VarHandle" ∧ (parseMethodDescriptor yX4_change.desc).map (fun d => d.parameters.length) = some 2 := by decide +kernel
theorem hp_X4_change : plainName yX4_change.cls = true := by decide +kernel
def rm_X4_count : Room := { frames := 4, cells := 0, slots := 0, locals := 87 }
theorem hy_X4_count : yX4_count.cls = RX4 ∧ yX4_count.cls ≠ "java/lang/invoke/MethodHandle" ∧ yX4_count.cls ≠ "java/lang/invoke/VarHandle" ∧ (parseMethodDescriptor yX4_count.desc).map (fun d => d.parameters.length) = some 1 := by decide +kernel
theorem hp_X4_count : plainName yX4_count.cls = true := by decide +kernel
def rm_X4_cut : Room := { frames := 5, cells := 0, slots := 0, locals := 111 }
theorem hy_X4_cut : yX4_cut.cls = RX4 ∧ yX4_cut.cls ≠ "java/lang/invoke/MethodHandle" ∧ yX4_cut.cls ≠ "java/lang/invoke/VarHandle" ∧ (parseMethodDescriptor yX4_cut.desc).map (fun d => d.parameters.length) = some 1 := by decide +kernel
theorem hp_X4_cut : plainName yX4_cut.cls = true := by decide +kernel
def rm_X4_goTo : Room := { frames := 5, cells := 0, slots := 0, locals := 111 }
theorem hy_X4_goTo : yX4_goTo.cls = RX4 ∧ yX4_goTo.cls ≠ "java/lang/invoke/MethodHandle" ∧ yX4_goTo.cls ≠ "java/lang/invoke/VarHandle" ∧ (parseMethodDescriptor yX4_goTo.desc).map (fun d => d.parameters.length) = some 1 := by decide +kernel
theorem hp_X4_goTo : plainName yX4_goTo.cls = true := by decide +kernel
def rm_X4_isOutside : Room := { frames := 0, cells := 0, slots := 0, locals := 0 }
theorem hy_X4_isOutside : yX4_isOutside.cls ≠ "java/lang/invoke/MethodHandle" ∧ yX4_isOutside.cls ≠ "java/lang/invoke/VarHandle" ∧ (parseMethodDescriptor yX4_isOutside.desc).map (fun d => d.parameters.length) = some 3 := by decide +kernel
theorem hp_X4_isOutside : plainName yX4_isOutside.cls = true := by decide +kernel
def rm_X4_jump : Room := { frames := 5, cells := 0, slots := 0, locals := 111 }
theorem hy_X4_jump : yX4_jump.cls = RX4 ∧ yX4_jump.cls ≠ "java/lang/invoke/MethodHandle" ∧ yX4_jump.cls ≠ "java/lang/invoke/VarHandle" ∧ (parseMethodDescriptor yX4_jump.desc).map (fun d => d.parameters.length) = some 1 := by decide +kernel
theorem hp_X4_jump : plainName yX4_jump.cls = true := by decide +kernel
def rm_X4_keepDraft : Room := { frames := 4, cells := 0, slots := 0, locals := 90 }
theorem hy_X4_keepDraft : yX4_keepDraft.cls = RX4 ∧ yX4_keepDraft.cls ≠ "java/lang/invoke/MethodHandle" ∧ yX4_keepDraft.cls ≠ "java/lang/invoke/VarHandle" ∧ (parseMethodDescriptor yX4_keepDraft.desc).map (fun d => d.parameters.length) = some 1 := by decide +kernel
theorem hp_X4_keepDraft : plainName yX4_keepDraft.cls = true := by decide +kernel
def rm_X4_line : Room := { frames := 4, cells := 0, slots := 0, locals := 87 }
theorem hy_X4_line : yX4_line.cls = RX4 ∧ yX4_line.cls ≠ "java/lang/invoke/MethodHandle" ∧ yX4_line.cls ≠ "java/lang/invoke/VarHandle" ∧ (parseMethodDescriptor yX4_line.desc).map (fun d => d.parameters.length) = some 2 := by decide +kernel
theorem hp_X4_line : plainName yX4_line.cls = true := by decide +kernel
def rm_X4_put : Room := { frames := 5, cells := 0, slots := 0, locals := 111 }
theorem hy_X4_put : yX4_put.cls = RX4 ∧ yX4_put.cls ≠ "java/lang/invoke/MethodHandle" ∧ yX4_put.cls ≠ "java/lang/invoke/VarHandle" ∧ (parseMethodDescriptor yX4_put.desc).map (fun d => d.parameters.length) = some 3 := by decide +kernel
theorem hp_X4_put : plainName yX4_put.cls = true := by decide +kernel
def rm_X4_scroll : Room := { frames := 5, cells := 0, slots := 0, locals := 111 }
theorem hy_X4_scroll : yX4_scroll.cls = RX4 ∧ yX4_scroll.cls ≠ "java/lang/invoke/MethodHandle" ∧ yX4_scroll.cls ≠ "java/lang/invoke/VarHandle" ∧ (parseMethodDescriptor yX4_scroll.desc).map (fun d => d.parameters.length) = some 1 := by decide +kernel
theorem hp_X4_scroll : plainName yX4_scroll.cls = true := by decide +kernel
def rm_X4_seen : Room := { frames := 4, cells := 0, slots := 0, locals := 87 }
theorem hy_X4_seen : yX4_seen.cls = RX4 ∧ yX4_seen.cls ≠ "java/lang/invoke/MethodHandle" ∧ yX4_seen.cls ≠ "java/lang/invoke/VarHandle" ∧ (parseMethodDescriptor yX4_seen.desc).map (fun d => d.parameters.length) = some 1 := by decide +kernel
theorem hp_X4_seen : plainName yX4_seen.cls = true := by decide +kernel
def rm_X4_setHeight : Room := { frames := 5, cells := 0, slots := 0, locals := 111 }
theorem hy_X4_setHeight : yX4_setHeight.cls = RX4 ∧ yX4_setHeight.cls ≠ "java/lang/invoke/MethodHandle" ∧ yX4_setHeight.cls ≠ "java/lang/invoke/VarHandle" ∧ (parseMethodDescriptor yX4_setHeight.desc).map (fun d => d.parameters.length) = some 1 := by decide +kernel
theorem hp_X4_setHeight : plainName yX4_setHeight.cls = true := by decide +kernel
def rm_X4_setWidth : Room := { frames := 5, cells := 0, slots := 0, locals := 111 }
theorem hy_X4_setWidth : yX4_setWidth.cls = RX4 ∧ yX4_setWidth.cls ≠ "java/lang/invoke/MethodHandle" ∧ yX4_setWidth.cls ≠ "java/lang/invoke/VarHandle" ∧ (parseMethodDescriptor yX4_setWidth.desc).map (fun d => d.parameters.length) = some 1 := by decide +kernel
theorem hp_X4_setWidth : plainName yX4_setWidth.cls = true := by decide +kernel
def rm_X4_share : Room := { frames := 4, cells := 0, slots := 0, locals := 87 }
theorem hy_X4_share : yX4_share.cls = RX4 ∧ yX4_share.cls ≠ "java/lang/invoke/MethodHandle" ∧ yX4_share.cls ≠ "java/lang/invoke/VarHandle" ∧ (parseMethodDescriptor yX4_share.desc).map (fun d => d.parameters.length) = some 0 := by decide +kernel
theorem hp_X4_share : plainName yX4_share.cls = true := by decide +kernel
def rm_X4_undo : Room := { frames := 4, cells := 0, slots := 0, locals := 89 }
theorem hy_X4_undo : yX4_undo.cls = RX4 ∧ yX4_undo.cls ≠ "java/lang/invoke/MethodHandle" ∧ yX4_undo.cls ≠ "java/lang/invoke/VarHandle" ∧ (parseMethodDescriptor yX4_undo.desc).map (fun d => d.parameters.length) = some 0 := by decide +kernel
theorem hp_X4_undo : plainName yX4_undo.cls = true := by decide +kernel
