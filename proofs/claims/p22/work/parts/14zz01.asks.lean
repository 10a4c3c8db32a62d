/-! the class: what its asks leave as it is -/
def aT8 : List aCe := [.inr (11, [(false, .inr (some [1])), (true, .inl (0, 1600)), (false, .inl (-2147483648, 2147483647)), (false, .inl (-2147483648, 2147483647)), (true, .inr (some [2, 14])), (true, .inr (some [2, 14])), (false, .inr (some [26])), (false, .inr (some [31])), (false, .inr (some [34])), (false, .inr (some [38])), (false, .inr (some [181])), (false, .inr (some [185])), (false, .inr (some [219])), (false, .inl (0, 33)), (false, .inr (some [220])), (true, .inl (-2147483648, 2147483647))]),
  .inl (true, 0, 1600, .inl (0, 255)),
  .inr (4, [(true, .inl (-2147483648, 2147483647)), (true, .inl (-2147483648, 2147483647)), (true, .inl (-2147483648, 2147483647)), (true, .inl (-2147483648, 2147483647)), (true, .inl (-2147483648, 2147483647)), (true, .inr none), (true, .inr none), (true, .inl (0, 9)), (true, .inr (some [3])), (true, .inr (some [4])), (true, .inr (some [5])), (true, .inr (some [6])), (true, .inl (0, 511)), (true, .inl (0, 6)), (true, .inr (some [7])), (true, .inr (some [8])), (true, .inr (some [9])), (true, .inr (some [10]))]),
  .inl (true, 0, 9, .inl (-2147483648, 2147483647)),
  .inl (true, 0, 9, .inl (-2147483648, 2147483647)),
  .inl (true, 0, 9, .inl (-2147483648, 2147483647)),
  .inl (true, 0, 9, .inl (-2147483648, 2147483647)),
  .inl (true, 0, 6, .inl (-2147483648, 2147483647)),
  .inl (true, 0, 6, .inl (-2147483648, 2147483647)),
  .inl (true, 0, 6, .inl (-2147483648, 2147483647)),
  .inr (7, [(true, .inr (some [11])), (true, .inr (some [12])), (true, .inr (some [13])), (true, .inl (0, 1600))]),
  .inl (true, 0, 1600, .inl (-2147483648, 2147483647)),
  .inl (true, 0, 3, .inl (0, 1600)),
  .inl (true, 0, 3, .inl (0, 1600)),
  .inr (4, [(true, .inl (-2147483648, 2147483647)), (true, .inl (-2147483648, 2147483647)), (true, .inl (-2147483648, 2147483647)), (true, .inl (-2147483648, 2147483647)), (true, .inl (-2147483648, 2147483647)), (true, .inr none), (true, .inr none), (true, .inl (0, 9)), (true, .inr (some [15])), (true, .inr (some [16])), (true, .inr (some [17])), (true, .inr (some [18])), (true, .inl (0, 511)), (true, .inl (0, 6)), (true, .inr (some [19])), (true, .inr (some [20])), (true, .inr (some [21])), (true, .inr (some [22]))]),
  .inl (true, 0, 9, .inl (-2147483648, 2147483647)),
  .inl (true, 0, 9, .inl (-2147483648, 2147483647)),
  .inl (true, 0, 9, .inl (-2147483648, 2147483647)),
  .inl (true, 0, 9, .inl (-2147483648, 2147483647)),
  .inl (true, 0, 6, .inl (-2147483648, 2147483647)),
  .inl (true, 0, 6, .inl (-2147483648, 2147483647)),
  .inl (true, 0, 6, .inl (-2147483648, 2147483647)),
  .inr (7, [(true, .inr (some [23])), (true, .inr (some [24])), (true, .inr (some [25])), (true, .inl (0, 1600))]),
  .inl (true, 0, 1600, .inl (-2147483648, 2147483647)),
  .inl (true, 0, 3, .inl (0, 1600)),
  .inl (true, 0, 3, .inl (0, 1600)),
  .inr (9, [(false, .inr (some [27])), (false, .inr (some [30])), (false, .inr (some [2, 14])), (false, .inl (-2147483648, 2147483647))]),
  .inr (5, [(false, .inr (some [28])), (false, .inr (some [1, 29])), (false, .inl (0, 1600)), (false, .inl (0, 1600)), (false, .inl (-2147483648, 2147483647)), (false, .inl (-2147483648, 2147483647)), (false, .inl (-2147483648, 2147483647)), (false, .inl (-2147483648, 2147483647)), (false, .inl (-2147483648, 2147483647)), (false, .inl (-2147483648, 2147483647)), (false, .inl (-2147483648, 2147483647)), (false, .inl (-2147483648, 2147483647))]),
  .inl (true, 0, 26, .inl (-2147483648, 2147483647)),
  .inl (false, 0, 0, .inl (-2147483648, 2147483647)),
  .inr (10, [(false, .inr (some [27])), (false, .inr (some [10, 22])), (false, .inl (-2147483648, 2147483647))]),
  .inr (8, [(true, .inl (-2147483648, 2147483647)), (true, .inl (0, 511)), (true, .inr (some [32])), (true, .inr (some [33])), (true, .inl (-2147483648, 2147483647)), (true, .inl (-2147483648, 2147483647))]),
  .inl (true, 0, 9, .inl (-2147483648, 2147483647)),
  .inl (true, 0, 6, .inl (-2147483648, 2147483647)),
  .inr (1, [(true, .inr (some [35])), (true, .inr (some [36])), (true, .inr (some [37])), (true, .inl (0, 40))]),
  .inl (true, 0, 40, .inl (-2147483648, 2147483647)),
  .inl (true, 0, 40, .inl (-2147483648, 2147483647)),
  .inl (true, 0, 40, .inl (-2147483648, 2147483647)),
  .inr (2, [(true, .inr (some [39])), (true, .inr (some [40])), (true, .inl (0, 19)), (true, .inl (0, 20))]),
  .inl (true, 3, 20, .inr (some [41, 48, 55, 62, 69, 76, 83, 90, 97, 104, 111, 118, 125, 132, 139, 146, 153, 160, 167, 174])),
  .inl (true, 4, 20, .inr (some [44, 51, 58, 65, 72, 79, 86, 93, 100, 107, 114, 121, 128, 135, 142, 149, 156, 163, 170, 177])),
  .inr (8, [(true, .inl (-2147483648, 2147483647)), (true, .inl (0, 511)), (true, .inr (some [42])), (true, .inr (some [43])), (true, .inl (-2147483648, 2147483647)), (true, .inl (-2147483648, 2147483647))]),
  .inl (true, 0, 9, .inl (-2147483648, 2147483647)),
  .inl (true, 0, 6, .inl (-2147483648, 2147483647)),
  .inr (1, [(true, .inr (some [45])), (true, .inr (some [46])), (true, .inr (some [47])), (true, .inl (0, 40))]),
  .inl (true, 0, 40, .inl (-2147483648, 2147483647)),
  .inl (true, 0, 40, .inl (-2147483648, 2147483647)),
  .inl (true, 0, 40, .inl (-2147483648, 2147483647)),
  .inr (8, [(true, .inl (-2147483648, 2147483647)), (true, .inl (0, 511)), (true, .inr (some [49])), (true, .inr (some [50])), (true, .inl (-2147483648, 2147483647)), (true, .inl (-2147483648, 2147483647))]),
  .inl (true, 0, 9, .inl (-2147483648, 2147483647)),
  .inl (true, 0, 6, .inl (-2147483648, 2147483647)),
  .inr (1, [(true, .inr (some [52])), (true, .inr (some [53])), (true, .inr (some [54])), (true, .inl (0, 40))]),
  .inl (true, 0, 40, .inl (-2147483648, 2147483647)),
  .inl (true, 0, 40, .inl (-2147483648, 2147483647)),
  .inl (true, 0, 40, .inl (-2147483648, 2147483647)),
  .inr (8, [(true, .inl (-2147483648, 2147483647)), (true, .inl (0, 511)), (true, .inr (some [56])), (true, .inr (some [57])), (true, .inl (-2147483648, 2147483647)), (true, .inl (-2147483648, 2147483647))]),
  .inl (true, 0, 9, .inl (-2147483648, 2147483647)),
  .inl (true, 0, 6, .inl (-2147483648, 2147483647)),
  .inr (1, [(true, .inr (some [59])), (true, .inr (some [60])), (true, .inr (some [61])), (true, .inl (0, 40))]),
  .inl (true, 0, 40, .inl (-2147483648, 2147483647)),
  .inl (true, 0, 40, .inl (-2147483648, 2147483647)),
  .inl (true, 0, 40, .inl (-2147483648, 2147483647)),
  .inr (8, [(true, .inl (-2147483648, 2147483647)), (true, .inl (0, 511)), (true, .inr (some [63])), (true, .inr (some [64])), (true, .inl (-2147483648, 2147483647)), (true, .inl (-2147483648, 2147483647))]),
  .inl (true, 0, 9, .inl (-2147483648, 2147483647)),
  .inl (true, 0, 6, .inl (-2147483648, 2147483647)),
  .inr (1, [(true, .inr (some [66])), (true, .inr (some [67])), (true, .inr (some [68])), (true, .inl (0, 40))]),
  .inl (true, 0, 40, .inl (-2147483648, 2147483647)),
  .inl (true, 0, 40, .inl (-2147483648, 2147483647)),
  .inl (true, 0, 40, .inl (-2147483648, 2147483647)),
  .inr (8, [(true, .inl (-2147483648, 2147483647)), (true, .inl (0, 511)), (true, .inr (some [70])), (true, .inr (some [71])), (true, .inl (-2147483648, 2147483647)), (true, .inl (-2147483648, 2147483647))]),
  .inl (true, 0, 9, .inl (-2147483648, 2147483647)),
  .inl (true, 0, 6, .inl (-2147483648, 2147483647)),
  .inr (1, [(true, .inr (some [73])), (true, .inr (some [74])), (true, .inr (some [75])), (true, .inl (0, 40))]),
  .inl (true, 0, 40, .inl (-2147483648, 2147483647)),
  .inl (true, 0, 40, .inl (-2147483648, 2147483647)),
  .inl (true, 0, 40, .inl (-2147483648, 2147483647)),
  .inr (8, [(true, .inl (-2147483648, 2147483647)), (true, .inl (0, 511)), (true, .inr (some [77])), (true, .inr (some [78])), (true, .inl (-2147483648, 2147483647)), (true, .inl (-2147483648, 2147483647))]),
  .inl (true, 0, 9, .inl (-2147483648, 2147483647)),
  .inl (true, 0, 6, .inl (-2147483648, 2147483647)),
  .inr (1, [(true, .inr (some [80])), (true, .inr (some [81])), (true, .inr (some [82])), (true, .inl (0, 40))]),
  .inl (true, 0, 40, .inl (-2147483648, 2147483647)),
  .inl (true, 0, 40, .inl (-2147483648, 2147483647)),
  .inl (true, 0, 40, .inl (-2147483648, 2147483647)),
  .inr (8, [(true, .inl (-2147483648, 2147483647)), (true, .inl (0, 511)), (true, .inr (some [84])), (true, .inr (some [85])), (true, .inl (-2147483648, 2147483647)), (true, .inl (-2147483648, 2147483647))]),
  .inl (true, 0, 9, .inl (-2147483648, 2147483647)),
  .inl (true, 0, 6, .inl (-2147483648, 2147483647)),
  .inr (1, [(true, .inr (some [87])), (true, .inr (some [88])), (true, .inr (some [89])), (true, .inl (0, 40))]),
  .inl (true, 0, 40, .inl (-2147483648, 2147483647)),
  .inl (true, 0, 40, .inl (-2147483648, 2147483647)),
  .inl (true, 0, 40, .inl (-2147483648, 2147483647)),
  .inr (8, [(true, .inl (-2147483648, 2147483647)), (true, .inl (0, 511)), (true, .inr (some [91])), (true, .inr (some [92])), (true, .inl (-2147483648, 2147483647)), (true, .inl (-2147483648, 2147483647))]),
  .inl (true, 0, 9, .inl (-2147483648, 2147483647)),
  .inl (true, 0, 6, .inl (-2147483648, 2147483647)),
  .inr (1, [(true, .inr (some [94])), (true, .inr (some [95])), (true, .inr (some [96])), (true, .inl (0, 40))]),
  .inl (true, 0, 40, .inl (-2147483648, 2147483647)),
  .inl (true, 0, 40, .inl (-2147483648, 2147483647)),
  .inl (true, 0, 40, .inl (-2147483648, 2147483647)),
  .inr (8, [(true, .inl (-2147483648, 2147483647)), (true, .inl (0, 511)), (true, .inr (some [98])), (true, .inr (some [99])), (true, .inl (-2147483648, 2147483647)), (true, .inl (-2147483648, 2147483647))]),
  .inl (true, 0, 9, .inl (-2147483648, 2147483647)),
  .inl (true, 0, 6, .inl (-2147483648, 2147483647)),
  .inr (1, [(true, .inr (some [101])), (true, .inr (some [102])), (true, .inr (some [103])), (true, .inl (0, 40))]),
  .inl (true, 0, 40, .inl (-2147483648, 2147483647)),
  .inl (true, 0, 40, .inl (-2147483648, 2147483647)),
  .inl (true, 0, 40, .inl (-2147483648, 2147483647)),
  .inr (8, [(true, .inl (-2147483648, 2147483647)), (true, .inl (0, 511)), (true, .inr (some [105])), (true, .inr (some [106])), (true, .inl (-2147483648, 2147483647)), (true, .inl (-2147483648, 2147483647))]),
  .inl (true, 0, 9, .inl (-2147483648, 2147483647)),
  .inl (true, 0, 6, .inl (-2147483648, 2147483647)),
  .inr (1, [(true, .inr (some [108])), (true, .inr (some [109])), (true, .inr (some [110])), (true, .inl (0, 40))]),
  .inl (true, 0, 40, .inl (-2147483648, 2147483647)),
  .inl (true, 0, 40, .inl (-2147483648, 2147483647)),
  .inl (true, 0, 40, .inl (-2147483648, 2147483647)),
  .inr (8, [(true, .inl (-2147483648, 2147483647)), (true, .inl (0, 511)), (true, .inr (some [112])), (true, .inr (some [113])), (true, .inl (-2147483648, 2147483647)), (true, .inl (-2147483648, 2147483647))]),
  .inl (true, 0, 9, .inl (-2147483648, 2147483647)),
  .inl (true, 0, 6, .inl (-2147483648, 2147483647)),
  .inr (1, [(true, .inr (some [115])), (true, .inr (some [116])), (true, .inr (some [117])), (true, .inl (0, 40))]),
  .inl (true, 0, 40, .inl (-2147483648, 2147483647)),
  .inl (true, 0, 40, .inl (-2147483648, 2147483647)),
  .inl (true, 0, 40, .inl (-2147483648, 2147483647)),
  .inr (8, [(true, .inl (-2147483648, 2147483647)), (true, .inl (0, 511)), (true, .inr (some [119])), (true, .inr (some [120])), (true, .inl (-2147483648, 2147483647)), (true, .inl (-2147483648, 2147483647))]),
  .inl (true, 0, 9, .inl (-2147483648, 2147483647)),
  .inl (true, 0, 6, .inl (-2147483648, 2147483647)),
  .inr (1, [(true, .inr (some [122])), (true, .inr (some [123])), (true, .inr (some [124])), (true, .inl (0, 40))]),
  .inl (true, 0, 40, .inl (-2147483648, 2147483647)),
  .inl (true, 0, 40, .inl (-2147483648, 2147483647)),
  .inl (true, 0, 40, .inl (-2147483648, 2147483647)),
  .inr (8, [(true, .inl (-2147483648, 2147483647)), (true, .inl (0, 511)), (true, .inr (some [126])), (true, .inr (some [127])), (true, .inl (-2147483648, 2147483647)), (true, .inl (-2147483648, 2147483647))]),
  .inl (true, 0, 9, .inl (-2147483648, 2147483647)),
  .inl (true, 0, 6, .inl (-2147483648, 2147483647)),
  .inr (1, [(true, .inr (some [129])), (true, .inr (some [130])), (true, .inr (some [131])), (true, .inl (0, 40))]),
  .inl (true, 0, 40, .inl (-2147483648, 2147483647)),
  .inl (true, 0, 40, .inl (-2147483648, 2147483647)),
  .inl (true, 0, 40, .inl (-2147483648, 2147483647)),
  .inr (8, [(true, .inl (-2147483648, 2147483647)), (true, .inl (0, 511)), (true, .inr (some [133])), (true, .inr (some [134])), (true, .inl (-2147483648, 2147483647)), (true, .inl (-2147483648, 2147483647))]),
  .inl (true, 0, 9, .inl (-2147483648, 2147483647)),
  .inl (true, 0, 6, .inl (-2147483648, 2147483647)),
  .inr (1, [(true, .inr (some [136])), (true, .inr (some [137])), (true, .inr (some [138])), (true, .inl (0, 40))]),
  .inl (true, 0, 40, .inl (-2147483648, 2147483647)),
  .inl (true, 0, 40, .inl (-2147483648, 2147483647)),
  .inl (true, 0, 40, .inl (-2147483648, 2147483647)),
  .inr (8, [(true, .inl (-2147483648, 2147483647)), (true, .inl (0, 511)), (true, .inr (some [140])), (true, .inr (some [141])), (true, .inl (-2147483648, 2147483647)), (true, .inl (-2147483648, 2147483647))]),
  .inl (true, 0, 9, .inl (-2147483648, 2147483647)),
  .inl (true, 0, 6, .inl (-2147483648, 2147483647)),
  .inr (1, [(true, .inr (some [143])), (true, .inr (some [144])), (true, .inr (some [145])), (true, .inl (0, 40))]),
  .inl (true, 0, 40, .inl (-2147483648, 2147483647)),
  .inl (true, 0, 40, .inl (-2147483648, 2147483647)),
  .inl (true, 0, 40, .inl (-2147483648, 2147483647)),
  .inr (8, [(true, .inl (-2147483648, 2147483647)), (true, .inl (0, 511)), (true, .inr (some [147])), (true, .inr (some [148])), (true, .inl (-2147483648, 2147483647)), (true, .inl (-2147483648, 2147483647))]),
  .inl (true, 0, 9, .inl (-2147483648, 2147483647)),
  .inl (true, 0, 6, .inl (-2147483648, 2147483647)),
  .inr (1, [(true, .inr (some [150])), (true, .inr (some [151])), (true, .inr (some [152])), (true, .inl (0, 40))]),
  .inl (true, 0, 40, .inl (-2147483648, 2147483647)),
  .inl (true, 0, 40, .inl (-2147483648, 2147483647)),
  .inl (true, 0, 40, .inl (-2147483648, 2147483647)),
  .inr (8, [(true, .inl (-2147483648, 2147483647)), (true, .inl (0, 511)), (true, .inr (some [154])), (true, .inr (some [155])), (true, .inl (-2147483648, 2147483647)), (true, .inl (-2147483648, 2147483647))]),
  .inl (true, 0, 9, .inl (-2147483648, 2147483647)),
  .inl (true, 0, 6, .inl (-2147483648, 2147483647)),
  .inr (1, [(true, .inr (some [157])), (true, .inr (some [158])), (true, .inr (some [159])), (true, .inl (0, 40))]),
  .inl (true, 0, 40, .inl (-2147483648, 2147483647)),
  .inl (true, 0, 40, .inl (-2147483648, 2147483647)),
  .inl (true, 0, 40, .inl (-2147483648, 2147483647)),
  .inr (8, [(true, .inl (-2147483648, 2147483647)), (true, .inl (0, 511)), (true, .inr (some [161])), (true, .inr (some [162])), (true, .inl (-2147483648, 2147483647)), (true, .inl (-2147483648, 2147483647))]),
  .inl (true, 0, 9, .inl (-2147483648, 2147483647)),
  .inl (true, 0, 6, .inl (-2147483648, 2147483647)),
  .inr (1, [(true, .inr (some [164])), (true, .inr (some [165])), (true, .inr (some [166])), (true, .inl (0, 40))]),
  .inl (true, 0, 40, .inl (-2147483648, 2147483647)),
  .inl (true, 0, 40, .inl (-2147483648, 2147483647)),
  .inl (true, 0, 40, .inl (-2147483648, 2147483647)),
  .inr (8, [(true, .inl (-2147483648, 2147483647)), (true, .inl (0, 511)), (true, .inr (some [168])), (true, .inr (some [169])), (true, .inl (-2147483648, 2147483647)), (true, .inl (-2147483648, 2147483647))]),
  .inl (true, 0, 9, .inl (-2147483648, 2147483647)),
  .inl (true, 0, 6, .inl (-2147483648, 2147483647)),
  .inr (1, [(true, .inr (some [171])), (true, .inr (some [172])), (true, .inr (some [173])), (true, .inl (0, 40))]),
  .inl (true, 0, 40, .inl (-2147483648, 2147483647)),
  .inl (true, 0, 40, .inl (-2147483648, 2147483647)),
  .inl (true, 0, 40, .inl (-2147483648, 2147483647)),
  .inr (8, [(true, .inl (-2147483648, 2147483647)), (true, .inl (0, 511)), (true, .inr (some [175])), (true, .inr (some [176])), (true, .inl (-2147483648, 2147483647)), (true, .inl (-2147483648, 2147483647))]),
  .inl (true, 0, 9, .inl (-2147483648, 2147483647)),
  .inl (true, 0, 6, .inl (-2147483648, 2147483647)),
  .inr (1, [(true, .inr (some [178])), (true, .inr (some [179])), (true, .inr (some [180])), (true, .inl (0, 40))]),
  .inl (true, 0, 40, .inl (-2147483648, 2147483647)),
  .inl (true, 0, 40, .inl (-2147483648, 2147483647)),
  .inl (true, 0, 40, .inl (-2147483648, 2147483647)),
  .inr (0, [(true, .inr (some [2, 14])), (false, .inr (some [182])), (false, .inr (some [184])), (false, .inl (0, 511)), (false, .inl (0, 511))]),
  .inr (6, [(false, .inr (some [183])), (false, .inl (-2147483648, 2147483647)), (false, .inl (-2147483648, 2147483647)), (false, .inl (-2147483648, 2147483647)), (false, .inl (-2147483648, 2147483647)), (false, .inl (-2147483648, 2147483647)), (false, .inl (-2147483648, 2147483647))]),
  .inl (false, 0, 128, .inl (-2147483648, 2147483647)),
  .inl (false, 1, 49, .inr none),
  .inr (3, [(false, .inr (some [181])), (false, .inr (some [186])), (false, .inr (some [187])), (false, .inr (some [188])), (false, .inr (some [189])), (false, .inr (some [190])), (false, .inl (-2147483648, 2147483647)), (false, .inl (-2147483648, 2147483647)), (false, .inr (some [191])), (true, .inl (0, 16)), (false, .inl (-2147483648, 2147483647)), (false, .inl (-2147483648, 2147483647)), (false, .inl (-2147483648, 2147483647))]),
  .inl (false, 3, 9, .inr (some [192, 195, 198, 201, 204, 207, 210, 213, 216])),
  .inl (false, 1, 9, .inr none),
  .inl (false, 0, 54, .inl (-2147483648, 2147483647)),
  .inl (false, 0, 3584, .inl (-2147483648, 2147483647)),
  .inl (false, 0, 6, .inl (-2147483648, 2147483647)),
  .inl (true, 0, 64, .inl (0, 255)),
  .inr (8, [(false, .inl (-2147483648, 2147483647)), (false, .inl (0, 511)), (false, .inr (some [193])), (false, .inr (some [194])), (false, .inl (-2147483648, 2147483647)), (false, .inl (-2147483648, 2147483647))]),
  .inl (false, 0, 9, .inl (-2147483648, 2147483647)),
  .inl (false, 0, 6, .inl (-2147483648, 2147483647)),
  .inr (8, [(false, .inl (-2147483648, 2147483647)), (false, .inl (0, 511)), (false, .inr (some [196])), (false, .inr (some [197])), (false, .inl (-2147483648, 2147483647)), (false, .inl (-2147483648, 2147483647))]),
  .inl (false, 0, 9, .inl (-2147483648, 2147483647)),
  .inl (false, 0, 6, .inl (-2147483648, 2147483647)),
  .inr (8, [(false, .inl (-2147483648, 2147483647)), (false, .inl (0, 511)), (false, .inr (some [199])), (false, .inr (some [200])), (false, .inl (-2147483648, 2147483647)), (false, .inl (-2147483648, 2147483647))]),
  .inl (false, 0, 9, .inl (-2147483648, 2147483647)),
  .inl (false, 0, 6, .inl (-2147483648, 2147483647)),
  .inr (8, [(false, .inl (-2147483648, 2147483647)), (false, .inl (0, 511)), (false, .inr (some [202])), (false, .inr (some [203])), (false, .inl (-2147483648, 2147483647)), (false, .inl (-2147483648, 2147483647))]),
  .inl (false, 0, 9, .inl (-2147483648, 2147483647)),
  .inl (false, 0, 6, .inl (-2147483648, 2147483647)),
  .inr (8, [(false, .inl (-2147483648, 2147483647)), (false, .inl (0, 511)), (false, .inr (some [205])), (false, .inr (some [206])), (false, .inl (-2147483648, 2147483647)), (false, .inl (-2147483648, 2147483647))]),
  .inl (false, 0, 9, .inl (-2147483648, 2147483647)),
  .inl (false, 0, 6, .inl (-2147483648, 2147483647)),
  .inr (8, [(false, .inl (-2147483648, 2147483647)), (false, .inl (0, 511)), (false, .inr (some [208])), (false, .inr (some [209])), (false, .inl (-2147483648, 2147483647)), (false, .inl (-2147483648, 2147483647))]),
  .inl (false, 0, 9, .inl (-2147483648, 2147483647)),
  .inl (false, 0, 6, .inl (-2147483648, 2147483647)),
  .inr (8, [(false, .inl (-2147483648, 2147483647)), (false, .inl (0, 511)), (false, .inr (some [211])), (false, .inr (some [212])), (false, .inl (-2147483648, 2147483647)), (false, .inl (-2147483648, 2147483647))]),
  .inl (false, 0, 9, .inl (-2147483648, 2147483647)),
  .inl (false, 0, 6, .inl (-2147483648, 2147483647)),
  .inr (8, [(false, .inl (-2147483648, 2147483647)), (false, .inl (0, 511)), (false, .inr (some [214])), (false, .inr (some [215])), (false, .inl (-2147483648, 2147483647)), (false, .inl (-2147483648, 2147483647))]),
  .inl (false, 0, 9, .inl (-2147483648, 2147483647)),
  .inl (false, 0, 6, .inl (-2147483648, 2147483647)),
  .inr (8, [(false, .inl (-2147483648, 2147483647)), (false, .inl (0, 511)), (false, .inr (some [217])), (false, .inr (some [218])), (false, .inl (-2147483648, 2147483647)), (false, .inl (-2147483648, 2147483647))]),
  .inl (false, 0, 9, .inl (-2147483648, 2147483647)),
  .inl (false, 0, 6, .inl (-2147483648, 2147483647)),
  .inl (false, 0, 33, .inl (-2147483648, 2147483647)),
  .inl (true, 0, 6, .inl (-2147483648, 2147483647)),
  .inr (12, [(true, .inr (some [222])), (true, .inl (0, 1600)), (true, .inl (0, 1600)), (true, .inl (-2147483648, 2147483647)), (true, .inl (0, 1600)), (true, .inl (0, 1600)), (true, .inl (-2147483648, 2147483647)), (true, .inr none), (true, .inl (-2147483648, 2147483647)), (true, .inl (-2147483648, 2147483647)), (true, .inl (-2147483648, 2147483647)), (true, .inl (-2147483648, 2147483647)), (true, .inl (-2147483648, 2147483647)), (true, .inl (0, 1)), (true, .inr (some [223])), (true, .inr (some [224])), (true, .inr (some [225])), (true, .inr (some [226])), (true, .inr (some [227])), (true, .inr (some [228])), (true, .inr (some [229])), (true, .inr (some [230])), (true, .inr (some [231])), (true, .inr (some [232])), (true, .inr (some [233])), (true, .inr (some [234])), (true, .inr (some [235])), (true, .inr (some [236])), (true, .inr (some [237])), (true, .inr (some [238])), (true, .inr (some [239])), (true, .inr (some [240])), (true, .inr (some [241])), (true, .inl (-2147483648, 2147483647)), (true, .inl (0, 1)), (true, .inl (-2147483648, 2147483647)), (true, .inr (some [242])), (true, .inr (some [243])), (true, .inr (some [244])), (true, .inr (some [245])), (true, .inr (some [246])), (true, .inl (-2147483648, 2147483647)), (true, .inl (-2147483648, 2147483647)), (true, .inr (some [247])), (true, .inl (-2147483648, 2147483647)), (true, .inl (0, 1)), (true, .inl (0, 1)), (true, .inr (some [248])), (true, .inr (some [249])), (true, .inr (some [250])), (true, .inr (some [251])), (true, .inr (some [252])), (true, .inr (some [253])), (true, .inr (some [254])), (true, .inl (0, 19)), (true, .inl (0, 20)), (true, .inr none), (true, .inr (some [255])), (true, .inr (some [256])), (true, .inr (some [257])), (true, .inr (some [258])), (true, .inr (some [259])), (true, .inr (some [260])), (true, .inr (some [261])), (true, .inr (some [262])), (true, .inr (some [263])), (true, .inl (0, 16)), (true, .inr (some [264])), (true, .inr (some [265])), (true, .inr (some [266])), (true, .inr (some [267])), (true, .inr (some [268])), (true, .inl (0, 33))]),
  .inl (true, 0, 1800, .inl (0, 255)),
  .inl (true, 0, 2, .inl (-2147483648, 2147483647)),
  .inl (true, 0, 2, .inl (-2147483648, 2147483647)),
  .inl (true, 0, 2, .inl (-2147483648, 2147483647)),
  .inl (true, 0, 2, .inl (-2147483648, 2147483647)),
  .inl (true, 0, 128, .inl (0, 1)),
  .inl (true, 0, 2, .inl (0, 9)),
  .inl (true, 0, 18, .inl (0, 63)),
  .inl (true, 0, 18, .inl (-2147483648, 2147483647)),
  .inl (true, 0, 18, .inl (-2147483648, 2147483647)),
  .inl (true, 0, 2, .inl (0, 511)),
  .inl (true, 0, 2, .inl (0, 6)),
  .inl (true, 0, 12, .inl (0, 63)),
  .inl (true, 0, 12, .inl (0, 63)),
  .inl (true, 0, 6, .inl (-2147483648, 2147483647)),
  .inl (true, 0, 6, .inl (-2147483648, 2147483647)),
  .inl (true, 0, 3200, .inl (-2147483648, 2147483647)),
  .inl (true, 0, 3200, .inl (-2147483648, 2147483647)),
  .inl (true, 1, 18, .inr none),
  .inl (true, 1, 12, .inr none),
  .inl (true, 0, 20, .inl (-2147483648, 2147483647)),
  .inl (true, 0, 20, .inl (-2147483648, 2147483647)),
  .inl (true, 2, 20, .inl (0, 1)),
  .inl (true, 0, 20, .inl (-2147483648, 2147483647)),
  .inl (true, 0, 20, .inl (-2147483648, 2147483647)),
  .inl (true, 0, 500, .inl (-2147483648, 2147483647)),
  .inl (true, 0, 6, .inl (-2147483648, 2147483647)),
  .inl (true, 0, 22, .inl (-2147483648, 2147483647)),
  .inl (true, 0, 22, .inl (0, 511)),
  .inl (true, 0, 198, .inl (-2147483648, 2147483647)),
  .inl (true, 0, 132, .inl (0, 63)),
  .inl (true, 0, 22, .inl (0, 40)),
  .inl (true, 0, 2640, .inl (-2147483648, 2147483647)),
  .inl (true, 0, 9, .inl (-2147483648, 2147483647)),
  .inl (true, 1, 500, .inr none),
  .inl (true, 0, 10, .inl (-2147483648, 2147483647)),
  .inl (true, 0, 64, .inl (-2147483648, 2147483647)),
  .inl (true, 0, 64, .inl (-2147483648, 2147483647)),
  .inl (true, 0, 64, .inl (0, 63)),
  .inl (true, 0, 64, .inl (0, 511)),
  .inl (true, 0, 54, .inl (-2147483648, 2147483647)),
  .inl (true, 0, 3584, .inl (-2147483648, 2147483647)),
  .inl (true, 0, 16, .inl (0, 255)),
  .inl (true, 0, 16, .inl (0, 5)),
  .inl (true, 0, 16, .inl (-2147483648, 2147483647)),
  .inl (true, 0, 1674, .inl (-2147483648, 2147483647)),
  .inl (true, 0, 50, .inl (-2147483648, 2147483647))]
noncomputable abbrev aΘ8 (E : zM → Prop) : aTh := (aT8, E, zpg)
def aH81 (E : zM → Prop) : Prop := aEs (aΘ8 E) ∧ aQc (aΘ8 E) 191 met_f
abbrev c81_X11_placeOf : aCt := (160, [.inl (0, 255), .inl (0, 255)], some (.inl (0, 2295)))
def a81_X11_placeOf_0 : List (Nat × aF) := [(0, a_ldi 1 1), (1, a_pi (8) 2), (3, a_b2 g_mul), (4, a_ldi 0 1), (5, a_b2 g_add), (6, a_ri false)]
theorem p81_X11_placeOf_0 {E : zM → Prop} (h : aH81 E) : aP0 (aΘ8 E) 0 tX11_placeOf_0 a81_X11_placeOf_0 := ⟨rfl, aok_ldi, rfl, aok_pi rfl, rfl, aok_b2 sd_mul, rfl, aok_ldi, rfl, aok_b2 sd_add, rfl, aok_ri, trivial⟩
def b81_X11_placeOf : aTb := [(100000, a81_X11_placeOf_0)]
theorem q81_X11_placeOf {E : zM → Prop} (h : aH81 E) : aP1 (aΘ8 E) 0 tX11_placeOf b81_X11_placeOf := ⟨rfl, p81_X11_placeOf_0 h, trivial⟩
def n81_X11_placeOf : List aNd := []
theorem k81_X11_placeOf {E : zM → Prop} (h : aH81 E) : aCv (aΘ8 E) 1 c81_X11_placeOf := aMeth (D := 0) (c := c81_X11_placeOf) (tb := b81_X11_placeOf) (ns := n81_X11_placeOf) (fuel := 3000) rfl (q81_X11_placeOf h) (by decide +kernel)
abbrev c81_X3_fitsMet : aCt := (43, [.inr (some [185]), .inr (some [31, 41, 48, 55, 62, 69, 76, 83, 90, 97, 104, 111, 118, 125, 132, 139, 146, 153, 160, 167, 174, 192, 195, 198, 201, 204, 207, 210, 213, 216]), .inl (-2147483648, 2147483647)], some (.inl (0, 1)))
def a81_X3_fitsMet_0 : List (Nat × aF) := [(0, a_pi (0) 1), (1, a_sti 5 3 1), (2, a_ldi 3 1), (3, a_lda 0 1), (4, a_gf aT8 3 9 (.inl (0, 16))), (7, a_ic d_ge d_lt 3 72), (10, a_ldi 3 1), (11, a_pi (4) 1), (12, a_b2 g_mum), (13, a_sti 5 4 2), (15, a_lda 0 1), (16, a_gf aT8 3 8 (.inr (some [191])))]
theorem p81_X3_fitsMet_0 {E : zM → Prop} (h : aH81 E) : aP0 (aΘ8 E) 1 tX3_fitsMet_0 a81_X3_fitsMet_0 := ⟨rfl, aok_pi rfl, rfl, aok_sti, rfl, aok_ldi, rfl, aok_lda, rfl, aok_gf, rfl, aok_ic sj_ge, rfl, aok_ldi, rfl, aok_pi rfl, rfl, aok_b2 sd_mum, rfl, aok_sti, rfl, aok_lda, rfl, aok_gf, trivial⟩
def a81_X3_fitsMet_1 : List (Nat × aF) := [(19, a_ldi 4 2), (21, a_al aT8 0 (0, 255)), (22, a_ldi 2 1), (23, a_ic d_ne d_eq 3 66), (26, a_lda 1 1), (27, a_gf aT8 8 3 (.inr (some [33, 43, 50, 57, 64, 71, 78, 85, 92, 99, 106, 113, 120, 127, 134, 141, 148, 155, 162, 169, 176, 194, 197, 200, 203, 206, 209, 212, 215, 218]))), (30, a_lda 0 1), (31, a_gf aT8 3 8 (.inr (some [191]))), (34, a_ldi 4 2), (36, a_pi (1) 1), (37, a_b2 g_add), (38, a_alc aT8 191 met_f)]
theorem p81_X3_fitsMet_1 {E : zM → Prop} (h : aH81 E) : aP0 (aΘ8 E) 1 tX3_fitsMet_1 a81_X3_fitsMet_1 := ⟨rfl, aok_ldi, rfl, aok_al, rfl, aok_ldi, rfl, aok_ic sj_ne, rfl, aok_lda, rfl, aok_gf, rfl, aok_lda, rfl, aok_gf, rfl, aok_ldi, rfl, aok_pi rfl, rfl, aok_b2 sd_add, rfl, aok_alc h.2, trivial⟩
def a81_X3_fitsMet_2 : List (Nat × aF) := [(39, a_al aT8 0 (-2147483648, 2147483647)), (40, a_lda 0 1), (41, a_gf aT8 3 8 (.inr (some [191]))), (44, a_ldi 4 2), (46, a_pi (2) 1), (47, a_b2 g_add), (48, a_al aT8 0 (0, 255)), (49, a_lda 0 1), (50, a_gf aT8 3 8 (.inr (some [191]))), (53, a_ldi 4 2), (55, a_pi (3) 1), (56, a_b2 g_add)]
theorem p81_X3_fitsMet_2 {E : zM → Prop} (h : aH81 E) : aP0 (aΘ8 E) 1 tX3_fitsMet_2 a81_X3_fitsMet_2 := ⟨rfl, aok_al, rfl, aok_lda, rfl, aok_gf, rfl, aok_ldi, rfl, aok_pi rfl, rfl, aok_b2 sd_add, rfl, aok_al, rfl, aok_lda, rfl, aok_gf, rfl, aok_ldi, rfl, aok_pi rfl, rfl, aok_b2 sd_add, trivial⟩
def a81_X3_fitsMet_3 : List (Nat × aF) := [(57, a_al aT8 0 (0, 255)), (58, a_cs c81_X11_placeOf 2), (61, a_ic d_eq d_ne 3 66), (64, a_pi (0) 1), (65, a_ri true), (66, a_iw 5 3 (1)), (69, a_gt 2), (72, a_pi (1) 1), (73, a_ri true)]
theorem p81_X3_fitsMet_3 {E : zM → Prop} (h : aH81 E) : aP0 (aΘ8 E) 1 tX3_fitsMet_3 a81_X3_fitsMet_3 := ⟨rfl, aok_al, rfl, aok_cs (c := c81_X11_placeOf) (D' := 1) (k81_X11_placeOf h) (by decide), rfl, aok_ic sj_eq, rfl, aok_pi rfl, rfl, aok_ri, rfl, aok_iw rfl, rfl, aok_gt, rfl, aok_pi rfl, rfl, aok_ri, trivial⟩
def b81_X3_fitsMet : aTb := [(19, a81_X3_fitsMet_0), (39, a81_X3_fitsMet_1), (57, a81_X3_fitsMet_2), (100000, a81_X3_fitsMet_3)]
theorem q81_X3_fitsMet {E : zM → Prop} (h : aH81 E) : aP1 (aΘ8 E) 1 tX3_fitsMet b81_X3_fitsMet := ⟨rfl, p81_X3_fitsMet_0 h, rfl, p81_X3_fitsMet_1 h, rfl, p81_X3_fitsMet_2 h, rfl, p81_X3_fitsMet_3 h, trivial⟩
def n81_X3_fitsMet : List aNd := [(2, [(0, .inr (some [185])), (1, .inr (some [31, 41, 48, 55, 62, 69, 76, 83, 90, 97, 104, 111, 118, 125, 132, 139, 146, 153, 160, 167, 174, 192, 195, 198, 201, 204, 207, 210, 213, 216])), (2, .inl (-2147483648, 2147483647)), (3, .inl (0, 0))], [(3, -1)], 16), (2, [(0, .inr (some [185])), (1, .inr (some [31, 41, 48, 55, 62, 69, 76, 83, 90, 97, 104, 111, 118, 125, 132, 139, 146, 153, 160, 167, 174, 192, 195, 198, 201, 204, 207, 210, 213, 216])), (2, .inl (-2147483648, 2147483647)), (3, .inl (1, 1)), (4, .inl (0, 0))], [(3, -1)], 16), (2, [(0, .inr (some [185])), (1, .inr (some [31, 41, 48, 55, 62, 69, 76, 83, 90, 97, 104, 111, 118, 125, 132, 139, 146, 153, 160, 167, 174, 192, 195, 198, 201, 204, 207, 210, 213, 216])), (2, .inl (-2147483648, 2147483647)), (3, .inl (2, 2)), (4, .inl (4, 4))], [(3, -1)], 16), (2, [(0, .inr (some [185])), (1, .inr (some [31, 41, 48, 55, 62, 69, 76, 83, 90, 97, 104, 111, 118, 125, 132, 139, 146, 153, 160, 167, 174, 192, 195, 198, 201, 204, 207, 210, 213, 216])), (2, .inl (-2147483648, 2147483647)), (3, .inl (3, 3)), (4, .inl (8, 8))], [(3, -1)], 16), (2, [(0, .inr (some [185])), (1, .inr (some [31, 41, 48, 55, 62, 69, 76, 83, 90, 97, 104, 111, 118, 125, 132, 139, 146, 153, 160, 167, 174, 192, 195, 198, 201, 204, 207, 210, 213, 216])), (2, .inl (-2147483648, 2147483647)), (3, .inl (4, 4)), (4, .inl (12, 12))], [(3, -1)], 16), (2, [(0, .inr (some [185])), (1, .inr (some [31, 41, 48, 55, 62, 69, 76, 83, 90, 97, 104, 111, 118, 125, 132, 139, 146, 153, 160, 167, 174, 192, 195, 198, 201, 204, 207, 210, 213, 216])), (2, .inl (-2147483648, 2147483647)), (3, .inl (5, 5)), (4, .inl (16, 16))], [(3, -1)], 16), (2, [(0, .inr (some [185])), (1, .inr (some [31, 41, 48, 55, 62, 69, 76, 83, 90, 97, 104, 111, 118, 125, 132, 139, 146, 153, 160, 167, 174, 192, 195, 198, 201, 204, 207, 210, 213, 216])), (2, .inl (-2147483648, 2147483647)), (3, .inl (6, 6)), (4, .inl (20, 20))], [(3, -1)], 16), (2, [(0, .inr (some [185])), (1, .inr (some [31, 41, 48, 55, 62, 69, 76, 83, 90, 97, 104, 111, 118, 125, 132, 139, 146, 153, 160, 167, 174, 192, 195, 198, 201, 204, 207, 210, 213, 216])), (2, .inl (-2147483648, 2147483647)), (3, .inl (7, 7)), (4, .inl (24, 24))], [(3, -1)], 16), (2, [(0, .inr (some [185])), (1, .inr (some [31, 41, 48, 55, 62, 69, 76, 83, 90, 97, 104, 111, 118, 125, 132, 139, 146, 153, 160, 167, 174, 192, 195, 198, 201, 204, 207, 210, 213, 216])), (2, .inl (-2147483648, 2147483647)), (3, .inl (8, 8)), (4, .inl (28, 28))], [(3, -1)], 16), (2, [(0, .inr (some [185])), (1, .inr (some [31, 41, 48, 55, 62, 69, 76, 83, 90, 97, 104, 111, 118, 125, 132, 139, 146, 153, 160, 167, 174, 192, 195, 198, 201, 204, 207, 210, 213, 216])), (2, .inl (-2147483648, 2147483647)), (3, .inl (9, 9)), (4, .inl (32, 32))], [(3, -1)], 16), (2, [(0, .inr (some [185])), (1, .inr (some [31, 41, 48, 55, 62, 69, 76, 83, 90, 97, 104, 111, 118, 125, 132, 139, 146, 153, 160, 167, 174, 192, 195, 198, 201, 204, 207, 210, 213, 216])), (2, .inl (-2147483648, 2147483647)), (3, .inl (10, 10)), (4, .inl (36, 36))], [(3, -1)], 16), (2, [(0, .inr (some [185])), (1, .inr (some [31, 41, 48, 55, 62, 69, 76, 83, 90, 97, 104, 111, 118, 125, 132, 139, 146, 153, 160, 167, 174, 192, 195, 198, 201, 204, 207, 210, 213, 216])), (2, .inl (-2147483648, 2147483647)), (3, .inl (11, 11)), (4, .inl (40, 40))], [(3, -1)], 16), (2, [(0, .inr (some [185])), (1, .inr (some [31, 41, 48, 55, 62, 69, 76, 83, 90, 97, 104, 111, 118, 125, 132, 139, 146, 153, 160, 167, 174, 192, 195, 198, 201, 204, 207, 210, 213, 216])), (2, .inl (-2147483648, 2147483647)), (3, .inl (12, 12)), (4, .inl (44, 44))], [(3, -1)], 16), (2, [(0, .inr (some [185])), (1, .inr (some [31, 41, 48, 55, 62, 69, 76, 83, 90, 97, 104, 111, 118, 125, 132, 139, 146, 153, 160, 167, 174, 192, 195, 198, 201, 204, 207, 210, 213, 216])), (2, .inl (-2147483648, 2147483647)), (3, .inl (13, 13)), (4, .inl (48, 48))], [(3, -1)], 16), (2, [(0, .inr (some [185])), (1, .inr (some [31, 41, 48, 55, 62, 69, 76, 83, 90, 97, 104, 111, 118, 125, 132, 139, 146, 153, 160, 167, 174, 192, 195, 198, 201, 204, 207, 210, 213, 216])), (2, .inl (-2147483648, 2147483647)), (3, .inl (14, 14)), (4, .inl (52, 52))], [(3, -1)], 16), (2, [(0, .inr (some [185])), (1, .inr (some [31, 41, 48, 55, 62, 69, 76, 83, 90, 97, 104, 111, 118, 125, 132, 139, 146, 153, 160, 167, 174, 192, 195, 198, 201, 204, 207, 210, 213, 216])), (2, .inl (-2147483648, 2147483647)), (3, .inl (15, 15)), (4, .inl (56, 56))], [(3, -1)], 16), (2, [(0, .inr (some [185])), (1, .inr (some [31, 41, 48, 55, 62, 69, 76, 83, 90, 97, 104, 111, 118, 125, 132, 139, 146, 153, 160, 167, 174, 192, 195, 198, 201, 204, 207, 210, 213, 216])), (2, .inl (-2147483648, 2147483647)), (3, .inl (16, 16)), (4, .inl (60, 60))], [(3, -1)], 16)]
theorem k81_X3_fitsMet {E : zM → Prop} (h : aH81 E) : aCv (aΘ8 E) 2 c81_X3_fitsMet := aMeth3 (D := 1) (c := c81_X3_fitsMet) (tb := b81_X3_fitsMet) (ns := n81_X3_fitsMet) (fuel := 3000) rfl (q81_X3_fitsMet h) (by decide +kernel)
abbrev c81_X8_isMissing : aCt := (81, [.inr (some [31]), .inl (0, 8)], some (.inl (0, 1)))
def a81_X8_isMissing_0 : List (Nat × aF) := [(0, a_lda 0 1), (1, a_gf aT8 8 1 (.inl (0, 511))), (4, a_ldi 1 1), (5, a_b2 g_shr), (6, a_pi (1) 1), (7, a_b2 g_and), (8, a_if c_eq c_ne 3 15), (11, a_pi (1) 1), (12, a_gt 16), (15, a_pi (0) 1), (16, a_ri true)]
theorem p81_X8_isMissing_0 {E : zM → Prop} (h : aH81 E) : aP0 (aΘ8 E) 0 tX8_isMissing_0 a81_X8_isMissing_0 := ⟨rfl, aok_lda, rfl, aok_gf, rfl, aok_ldi, rfl, aok_b2 sd_shr, rfl, aok_pi rfl, rfl, aok_b2 sd_and, rfl, aok_if si_eq, rfl, aok_pi rfl, rfl, aok_gt, rfl, aok_pi rfl, rfl, aok_ri, trivial⟩
def b81_X8_isMissing : aTb := [(100000, a81_X8_isMissing_0)]
theorem q81_X8_isMissing {E : zM → Prop} (h : aH81 E) : aP1 (aΘ8 E) 0 tX8_isMissing b81_X8_isMissing := ⟨rfl, p81_X8_isMissing_0 h, trivial⟩
def n81_X8_isMissing : List aNd := []
theorem k81_X8_isMissing {E : zM → Prop} (h : aH81 E) : aCv (aΘ8 E) 1 c81_X8_isMissing := aMeth (D := 0) (c := c81_X8_isMissing) (tb := b81_X8_isMissing) (ns := n81_X8_isMissing) (fuel := 3000) rfl (q81_X8_isMissing h) (by decide +kernel)
abbrev c81_X11_columnOf : aCt := (161, [.inl (-2147483648, 2147483647)], some (.inl (-7, 7)))
def a81_X11_columnOf_0 : List (Nat × aF) := [(0, a_ldi 0 1), (1, a_pi (8) 2), (3, a_d2 g_rem), (4, a_ri false)]
theorem p81_X11_columnOf_0 {E : zM → Prop} (h : aH81 E) : aP0 (aΘ8 E) 0 tX11_columnOf_0 a81_X11_columnOf_0 := ⟨rfl, aok_ldi, rfl, aok_pi rfl, rfl, aok_d2 sp_rem, rfl, aok_ri, trivial⟩
def b81_X11_columnOf : aTb := [(100000, a81_X11_columnOf_0)]
theorem q81_X11_columnOf {E : zM → Prop} (h : aH81 E) : aP1 (aΘ8 E) 0 tX11_columnOf b81_X11_columnOf := ⟨rfl, p81_X11_columnOf_0 h, trivial⟩
def n81_X11_columnOf : List aNd := []
theorem k81_X11_columnOf {E : zM → Prop} (h : aH81 E) : aCv (aΘ8 E) 1 c81_X11_columnOf := aMeth (D := 0) (c := c81_X11_columnOf) (tb := b81_X11_columnOf) (ns := n81_X11_columnOf) (fuel := 3000) rfl (q81_X11_columnOf h) (by decide +kernel)
abbrev c81_X11_rowOf : aCt := (162, [.inl (-2147483648, 2147483647)], some (.inl (-2147483648, 2147483647)))
def a81_X11_rowOf_0 : List (Nat × aF) := [(0, a_ldi 0 1), (1, a_pi (8) 2), (3, a_d2 g_div), (4, a_ri false)]
theorem p81_X11_rowOf_0 {E : zM → Prop} (h : aH81 E) : aP0 (aΘ8 E) 0 tX11_rowOf_0 a81_X11_rowOf_0 := ⟨rfl, aok_ldi, rfl, aok_pi rfl, rfl, aok_d2 sp_div, rfl, aok_ri, trivial⟩
def b81_X11_rowOf : aTb := [(100000, a81_X11_rowOf_0)]
theorem q81_X11_rowOf {E : zM → Prop} (h : aH81 E) : aP1 (aΘ8 E) 0 tX11_rowOf b81_X11_rowOf := ⟨rfl, p81_X11_rowOf_0 h, trivial⟩
def n81_X11_rowOf : List aNd := []
theorem k81_X11_rowOf {E : zM → Prop} (h : aH81 E) : aCv (aΘ8 E) 1 c81_X11_rowOf := aMeth (D := 0) (c := c81_X11_rowOf) (tb := b81_X11_rowOf) (ns := n81_X11_rowOf) (fuel := 3000) rfl (q81_X11_rowOf h) (by decide +kernel)
abbrev c81_X11_checkOf : aCt := (158, [.inr (some [219]), .inl (2, 32)], some (.inl (-250, 250)))
def a81_X11_checkOf_0 : List (Nat × aF) := [(0, a_pi (241) 3), (3, a_sti 4 2 1), (4, a_pi (0) 1), (5, a_sti 4 3 1), (6, a_ldi 3 1), (7, a_ldi 1 1), (8, a_ic d_ge d_lt 3 35), (11, a_ldi 3 1), (12, a_lda 0 1), (13, a_len aT8 0 33), (14, a_ic d_ge d_lt 3 35), (17, a_pi (5) 1)]
theorem p81_X11_checkOf_0 {E : zM → Prop} (h : aH81 E) : aP0 (aΘ8 E) 0 tX11_checkOf_0 a81_X11_checkOf_0 := ⟨rfl, aok_pi rfl, rfl, aok_sti, rfl, aok_pi rfl, rfl, aok_sti, rfl, aok_ldi, rfl, aok_ldi, rfl, aok_ic sj_ge, rfl, aok_ldi, rfl, aok_lda, rfl, aok_len, rfl, aok_ic sj_ge, rfl, aok_pi rfl, trivial⟩
def a81_X11_checkOf_1 : List (Nat × aF) := [(18, a_ldi 2 1), (19, a_b2 g_mul), (20, a_lda 0 1), (21, a_ldi 3 1), (22, a_al aT8 0 (-2147483648, 2147483647)), (23, a_b2 g_add), (24, a_pi (251) 3), (27, a_d2 g_rem), (28, a_sti 4 2 1), (29, a_iw 4 3 (1)), (32, a_gt 6), (35, a_ldi 2 1)]
theorem p81_X11_checkOf_1 {E : zM → Prop} (h : aH81 E) : aP0 (aΘ8 E) 0 tX11_checkOf_1 a81_X11_checkOf_1 := ⟨rfl, aok_ldi, rfl, aok_b2 sd_mul, rfl, aok_lda, rfl, aok_ldi, rfl, aok_al, rfl, aok_b2 sd_add, rfl, aok_pi rfl, rfl, aok_d2 sp_rem, rfl, aok_sti, rfl, aok_iw rfl, rfl, aok_gt, rfl, aok_ldi, trivial⟩
def a81_X11_checkOf_2 : List (Nat × aF) := [(36, a_ri false)]
theorem p81_X11_checkOf_2 {E : zM → Prop} (h : aH81 E) : aP0 (aΘ8 E) 0 tX11_checkOf_2 a81_X11_checkOf_2 := ⟨rfl, aok_ri, trivial⟩
def b81_X11_checkOf : aTb := [(18, a81_X11_checkOf_0), (36, a81_X11_checkOf_1), (100000, a81_X11_checkOf_2)]
theorem q81_X11_checkOf {E : zM → Prop} (h : aH81 E) : aP1 (aΘ8 E) 0 tX11_checkOf b81_X11_checkOf := ⟨rfl, p81_X11_checkOf_0 h, rfl, p81_X11_checkOf_1 h, rfl, p81_X11_checkOf_2 h, trivial⟩
def n81_X11_checkOf : List aNd := [(6, [(0, .inr (some [219])), (1, .inl (2, 32)), (2, .inl (-250, 250)), (3, .inl (0, 32))], [(3, -1)], 32)]
theorem k81_X11_checkOf {E : zM → Prop} (h : aH81 E) : aCv (aΘ8 E) 1 c81_X11_checkOf := aMeth (D := 0) (c := c81_X11_checkOf) (tb := b81_X11_checkOf) (ns := n81_X11_checkOf) (fuel := 3000) rfl (q81_X11_checkOf h) (by decide +kernel)
abbrev c81_X11_image : aCt := (140, [.inr (some [0])], some (.inl (3, 33)))
def a81_X11_image_0 : List (Nat × aF) := [(0, a_lda 0 1), (1, a_gf aT8 11 12 (.inr (some [219]))), (4, a_pi (0) 1), (5, a_lda 0 1), (6, a_gf aT8 11 7 (.inr (some [31]))), (9, a_gf aT8 8 0 (.inl (-2147483648, 2147483647))), (12, a_pi (8) 2), (14, a_b2 g_shr), (15, a_as aT8 0), (16, a_lda 0 1), (17, a_gf aT8 11 12 (.inr (some [219]))), (20, a_pi (1) 1)]
theorem p81_X11_image_0 {E : zM → Prop} (h : aH81 E) : aP0 (aΘ8 E) 1 tX11_image_0 a81_X11_image_0 := ⟨rfl, aok_lda, rfl, aok_gf, rfl, aok_pi rfl, rfl, aok_lda, rfl, aok_gf, rfl, aok_gf, rfl, aok_pi rfl, rfl, aok_b2 sd_shr, rfl, aok_as h.1, rfl, aok_lda, rfl, aok_gf, rfl, aok_pi rfl, trivial⟩
def a81_X11_image_1 : List (Nat × aF) := [(21, a_lda 0 1), (22, a_gf aT8 11 7 (.inr (some [31]))), (25, a_gf aT8 8 0 (.inl (-2147483648, 2147483647))), (28, a_pi (255) 3), (31, a_b2 g_and), (32, a_as aT8 0), (33, a_pi (2) 1), (34, a_sti 3 1 1), (35, a_pi (0) 1), (36, a_sti 3 2 1), (37, a_ldi 2 1), (38, a_lda 0 1)]
theorem p81_X11_image_1 {E : zM → Prop} (h : aH81 E) : aP0 (aΘ8 E) 1 tX11_image_1 a81_X11_image_1 := ⟨rfl, aok_lda, rfl, aok_gf, rfl, aok_gf, rfl, aok_pi rfl, rfl, aok_b2 sd_and, rfl, aok_as h.1, rfl, aok_pi rfl, rfl, aok_sti, rfl, aok_pi rfl, rfl, aok_sti, rfl, aok_ldi, rfl, aok_lda, trivial⟩
def a81_X11_image_2 : List (Nat × aF) := [(39, a_gf aT8 11 4 (.inr (some [2, 14]))), (42, a_gf aT8 4 7 (.inl (0, 9))), (45, a_ic d_ge d_lt 3 96), (48, a_lda 0 1), (49, a_gf aT8 11 12 (.inr (some [219]))), (52, a_ldi 1 1), (53, a_lda 0 1), (54, a_gf aT8 11 7 (.inr (some [31]))), (57, a_ldi 2 1), (58, a_cv aT8 c81_X8_isMissing 1 8), (61, a_if c_eq c_ne 3 68), (64, a_pi (1) 1)]
theorem p81_X11_image_2 {E : zM → Prop} (h : aH81 E) : aP0 (aΘ8 E) 1 tX11_image_2 a81_X11_image_2 := ⟨rfl, aok_gf, rfl, aok_gf, rfl, aok_ic sj_ge, rfl, aok_lda, rfl, aok_gf, rfl, aok_ldi, rfl, aok_lda, rfl, aok_gf, rfl, aok_ldi, rfl, aok_cv (c := c81_X8_isMissing) (D' := 1) (k81_X8_isMissing h) (by decide), rfl, aok_if si_eq, rfl, aok_pi rfl, trivial⟩
def a81_X11_image_3 : List (Nat × aF) := [(65, a_gt 69), (68, a_pi (0) 1), (69, a_as aT8 0), (70, a_lda 0 1), (71, a_gf aT8 11 12 (.inr (some [219]))), (74, a_ldi 1 1), (75, a_pi (1) 1), (76, a_b2 g_add), (77, a_lda 0 1), (78, a_gf aT8 11 7 (.inr (some [31]))), (81, a_gf aT8 8 2 (.inr (some [32]))), (84, a_ldi 2 1)]
theorem p81_X11_image_3 {E : zM → Prop} (h : aH81 E) : aP0 (aΘ8 E) 1 tX11_image_3 a81_X11_image_3 := ⟨rfl, aok_gt, rfl, aok_pi rfl, rfl, aok_as h.1, rfl, aok_lda, rfl, aok_gf, rfl, aok_ldi, rfl, aok_pi rfl, rfl, aok_b2 sd_add, rfl, aok_lda, rfl, aok_gf, rfl, aok_gf, rfl, aok_ldi, trivial⟩
def a81_X11_image_4 : List (Nat × aF) := [(85, a_al aT8 0 (-2147483648, 2147483647)), (86, a_as aT8 0), (87, a_iw 3 1 (2)), (90, a_iw 3 2 (1)), (93, a_gt 37), (96, a_pi (0) 1), (97, a_sti 3 2 1), (98, a_ldi 2 1), (99, a_lda 0 1), (100, a_gf aT8 11 4 (.inr (some [2, 14]))), (103, a_gf aT8 4 13 (.inl (0, 6))), (106, a_ic d_ge d_lt 3 156)]
theorem p81_X11_image_4 {E : zM → Prop} (h : aH81 E) : aP0 (aΘ8 E) 1 tX11_image_4 a81_X11_image_4 := ⟨rfl, aok_al, rfl, aok_as h.1, rfl, aok_iw rfl, rfl, aok_iw rfl, rfl, aok_gt, rfl, aok_pi rfl, rfl, aok_sti, rfl, aok_ldi, rfl, aok_lda, rfl, aok_gf, rfl, aok_gf, rfl, aok_ic sj_ge, trivial⟩
def a81_X11_image_5 : List (Nat × aF) := [(109, a_lda 0 1), (110, a_gf aT8 11 12 (.inr (some [219]))), (113, a_ldi 1 1), (114, a_lda 0 1), (115, a_gf aT8 11 7 (.inr (some [31]))), (118, a_gf aT8 8 3 (.inr (some [33]))), (121, a_ldi 2 1), (122, a_al aT8 0 (-2147483648, 2147483647)), (123, a_cs c81_X11_columnOf 1), (126, a_as aT8 0), (127, a_lda 0 1), (128, a_gf aT8 11 12 (.inr (some [219])))]
theorem p81_X11_image_5 {E : zM → Prop} (h : aH81 E) : aP0 (aΘ8 E) 1 tX11_image_5 a81_X11_image_5 := ⟨rfl, aok_lda, rfl, aok_gf, rfl, aok_ldi, rfl, aok_lda, rfl, aok_gf, rfl, aok_gf, rfl, aok_ldi, rfl, aok_al, rfl, aok_cs (c := c81_X11_columnOf) (D' := 1) (k81_X11_columnOf h) (by decide), rfl, aok_as h.1, rfl, aok_lda, rfl, aok_gf, trivial⟩
def a81_X11_image_6 : List (Nat × aF) := [(131, a_ldi 1 1), (132, a_pi (1) 1), (133, a_b2 g_add), (134, a_lda 0 1), (135, a_gf aT8 11 7 (.inr (some [31]))), (138, a_gf aT8 8 3 (.inr (some [33]))), (141, a_ldi 2 1), (142, a_al aT8 0 (-2147483648, 2147483647)), (143, a_cs c81_X11_rowOf 1), (146, a_as aT8 0), (147, a_iw 3 1 (2)), (150, a_iw 3 2 (1))]
theorem p81_X11_image_6 {E : zM → Prop} (h : aH81 E) : aP0 (aΘ8 E) 1 tX11_image_6 a81_X11_image_6 := ⟨rfl, aok_ldi, rfl, aok_pi rfl, rfl, aok_b2 sd_add, rfl, aok_lda, rfl, aok_gf, rfl, aok_gf, rfl, aok_ldi, rfl, aok_al, rfl, aok_cs (c := c81_X11_rowOf) (D' := 1) (k81_X11_rowOf h) (by decide), rfl, aok_as h.1, rfl, aok_iw rfl, rfl, aok_iw rfl, trivial⟩
def a81_X11_image_7 : List (Nat × aF) := [(153, a_gt 98), (156, a_lda 0 1), (157, a_gf aT8 11 12 (.inr (some [219]))), (160, a_ldi 1 1), (161, a_lda 0 1), (162, a_gf aT8 11 12 (.inr (some [219]))), (165, a_ldi 1 1), (166, a_cs c81_X11_checkOf 2), (169, a_as aT8 0), (170, a_lda 0 1), (171, a_ldi 1 1), (172, a_pi (1) 1)]
theorem p81_X11_image_7 {E : zM → Prop} (h : aH81 E) : aP0 (aΘ8 E) 1 tX11_image_7 a81_X11_image_7 := ⟨rfl, aok_gt, rfl, aok_lda, rfl, aok_gf, rfl, aok_ldi, rfl, aok_lda, rfl, aok_gf, rfl, aok_ldi, rfl, aok_cs (c := c81_X11_checkOf) (D' := 1) (k81_X11_checkOf h) (by decide), rfl, aok_as h.1, rfl, aok_lda, rfl, aok_ldi, rfl, aok_pi rfl, trivial⟩
def a81_X11_image_8 : List (Nat × aF) := [(173, a_b2 g_add), (174, a_pf aT8 11 13 (.int)), (177, a_lda 0 1), (178, a_gf aT8 11 13 (.inl (0, 33))), (181, a_ri false)]
theorem p81_X11_image_8 {E : zM → Prop} (h : aH81 E) : aP0 (aΘ8 E) 1 tX11_image_8 a81_X11_image_8 := ⟨rfl, aok_b2 sd_add, rfl, aok_pf h.1, rfl, aok_lda, rfl, aok_gf, rfl, aok_ri, trivial⟩
def b81_X11_image : aTb := [(21, a81_X11_image_0), (39, a81_X11_image_1), (65, a81_X11_image_2), (85, a81_X11_image_3), (109, a81_X11_image_4), (131, a81_X11_image_5), (153, a81_X11_image_6), (173, a81_X11_image_7), (100000, a81_X11_image_8)]
theorem q81_X11_image {E : zM → Prop} (h : aH81 E) : aP1 (aΘ8 E) 1 tX11_image b81_X11_image := ⟨rfl, p81_X11_image_0 h, rfl, p81_X11_image_1 h, rfl, p81_X11_image_2 h, rfl, p81_X11_image_3 h, rfl, p81_X11_image_4 h, rfl, p81_X11_image_5 h, rfl, p81_X11_image_6 h, rfl, p81_X11_image_7 h, rfl, p81_X11_image_8 h, trivial⟩
def n81_X11_image : List aNd := [(37, [(0, .inr (some [0])), (1, .inl (2, 2)), (2, .inl (0, 0))], [(2, -1)], 17), (37, [(0, .inr (some [0])), (1, .inl (4, 4)), (2, .inl (1, 1))], [(2, -1)], 17), (37, [(0, .inr (some [0])), (1, .inl (6, 6)), (2, .inl (2, 2))], [(2, -1)], 17), (37, [(0, .inr (some [0])), (1, .inl (8, 8)), (2, .inl (3, 3))], [(2, -1)], 17), (37, [(0, .inr (some [0])), (1, .inl (10, 10)), (2, .inl (4, 4))], [(2, -1)], 17), (37, [(0, .inr (some [0])), (1, .inl (12, 12)), (2, .inl (5, 5))], [(2, -1)], 17), (37, [(0, .inr (some [0])), (1, .inl (14, 14)), (2, .inl (6, 6))], [(2, -1)], 17), (37, [(0, .inr (some [0])), (1, .inl (16, 16)), (2, .inl (7, 7))], [(2, -1)], 17), (37, [(0, .inr (some [0])), (1, .inl (18, 18)), (2, .inl (8, 8))], [(2, -1)], 17), (37, [(0, .inr (some [0])), (1, .inl (20, 20)), (2, .inl (9, 9))], [(2, -1)], 17), (98, [(0, .inr (some [0])), (1, .inl (2, 20)), (2, .inl (0, 0))], [(2, -1)], 6), (98, [(0, .inr (some [0])), (1, .inl (4, 22)), (2, .inl (1, 1))], [(2, -1)], 6), (98, [(0, .inr (some [0])), (1, .inl (6, 24)), (2, .inl (2, 2))], [(2, -1)], 6), (98, [(0, .inr (some [0])), (1, .inl (8, 26)), (2, .inl (3, 3))], [(2, -1)], 6), (98, [(0, .inr (some [0])), (1, .inl (10, 28)), (2, .inl (4, 4))], [(2, -1)], 6), (98, [(0, .inr (some [0])), (1, .inl (12, 30)), (2, .inl (5, 5))], [(2, -1)], 6), (98, [(0, .inr (some [0])), (1, .inl (14, 32)), (2, .inl (6, 6))], [(2, -1)], 6)]
theorem k81_X11_image {E : zM → Prop} (h : aH81 E) : aCv (aΘ8 E) 2 c81_X11_image := aMeth3 (D := 1) (c := c81_X11_image) (tb := b81_X11_image) (ns := n81_X11_image) (fuel := 3000) rfl (q81_X11_image h) (by decide +kernel)
theorem aLq_08 : aLq aT0 aT8 = true := by decide +kernel
theorem aLq_80 : aLq aT8 aT0 = true := by decide +kernel
