def iM_keepsAct : Inst := (162, [(zr [70])], [], [(none, [], [])], [(70, 53), (91, 9999), (92, 9999)])
def iM_reading : Inst := (191, [(zr [70]), (zi 0 8)], [], [(none, [], [])], [(70, 25), (75, 9999), (76, 9999), (77, 9999), (78, 9999), (79, 9999), (80, 9999), (81, 9999), (82, 9999), (83, 9999), (84, 9999), (85, 9999)])
def iM_seeks : Inst := (218, [(zr [70])], [], [(some (zi 0 1), [], [])], [(70, 45), (70, 46), (70, 47), (70, 48), (75, 9999), (87, 9999), (88, 9999), (89, 9999)])
theorem vM_keepsAct : iv pmT hdT shT iM_keepsAct := sorry
theorem vM_reading : iv pmT hdT shT iM_reading := sorry
theorem vM_seeks : iv pmT hdT shT iM_seeks := sorry
